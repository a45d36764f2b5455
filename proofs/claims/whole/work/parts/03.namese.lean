theorem dX5_appendShow_0 : decode cX5_appendShow 0 = .ok (.aload_n 0, 1) := by decide +kernel
theorem dX5_appendShow_1 : decode cX5_appendShow 1 = .ok (.getfield 47, 3) := by decide +kernel
theorem dX5_appendShow_4 : decode cX5_appendShow 4 = .ok (.aload_n 0, 1) := by decide +kernel
theorem dX5_appendShow_5 : decode cX5_appendShow 5 = .ok (.getfield 10, 3) := by decide +kernel
theorem dX5_appendShow_8 : decode cX5_appendShow 8 = .ok (.getfield 210, 3) := by decide +kernel
theorem dX5_appendShow_11 : decode cX5_appendShow 11 = .ok (.iload_n 1, 1) := by decide +kernel
theorem dX5_appendShow_12 : decode cX5_appendShow 12 = .ok (.iconst 3, 1) := by decide +kernel
theorem dX5_appendShow_13 : decode cX5_appendShow 13 = .ok (.invokevirtual 126, 3) := by decide +kernel
theorem dX5_appendShow_16 : decode cX5_appendShow 16 = .ok (.invokevirtual 446, 3) := by decide +kernel
theorem dX5_appendShow_19 : decode cX5_appendShow 19 = .ok (.pop, 1) := by decide +kernel
theorem dX5_appendShow_20 : decode cX5_appendShow 20 = .ok (.aload_n 0, 1) := by decide +kernel
theorem dX5_appendShow_21 : decode cX5_appendShow 21 = .ok (.getfield 47, 3) := by decide +kernel
theorem dX5_appendShow_24 : decode cX5_appendShow 24 = .ok (.bipush 45, 2) := by decide +kernel
theorem dX5_appendShow_26 : decode cX5_appendShow 26 = .ok (.invokevirtual 377, 3) := by decide +kernel
theorem dX5_appendShow_29 : decode cX5_appendShow 29 = .ok (.pop, 1) := by decide +kernel
theorem dX5_appendShow_30 : decode cX5_appendShow 30 = .ok (.aload_n 0, 1) := by decide +kernel
theorem dX5_appendShow_31 : decode cX5_appendShow 31 = .ok (.getfield 47, 3) := by decide +kernel
theorem dX5_appendShow_34 : decode cX5_appendShow 34 = .ok (.aload_n 0, 1) := by decide +kernel
theorem dX5_appendShow_35 : decode cX5_appendShow 35 = .ok (.getfield 10, 3) := by decide +kernel
theorem dX5_appendShow_38 : decode cX5_appendShow 38 = .ok (.getfield 210, 3) := by decide +kernel
theorem dX5_appendShow_41 : decode cX5_appendShow 41 = .ok (.iload_n 1, 1) := by decide +kernel
theorem dX5_appendShow_42 : decode cX5_appendShow 42 = .ok (.iconst 4, 1) := by decide +kernel
theorem dX5_appendShow_43 : decode cX5_appendShow 43 = .ok (.invokevirtual 126, 3) := by decide +kernel
theorem dX5_appendShow_46 : decode cX5_appendShow 46 = .ok (.invokevirtual 446, 3) := by decide +kernel
theorem dX5_appendShow_49 : decode cX5_appendShow 49 = .ok (.pop, 1) := by decide +kernel
theorem dX5_appendShow_50 : decode cX5_appendShow 50 = .ok (.aload_n 0, 1) := by decide +kernel
theorem dX5_appendShow_51 : decode cX5_appendShow 51 = .ok (.getfield 47, 3) := by decide +kernel
theorem dX5_appendShow_54 : decode cX5_appendShow 54 = .ok (.ldc_w 449, 3) := by decide +kernel
theorem dX5_appendShow_57 : decode cX5_appendShow 57 = .ok (.invokevirtual 353, 3) := by decide +kernel
theorem dX5_appendShow_60 : decode cX5_appendShow 60 = .ok (.pop, 1) := by decide +kernel
theorem dX5_appendShow_61 : decode cX5_appendShow 61 = .ok (.aload_n 0, 1) := by decide +kernel
theorem dX5_appendShow_62 : decode cX5_appendShow 62 = .ok (.getfield 47, 3) := by decide +kernel
theorem dX5_appendShow_65 : decode cX5_appendShow 65 = .ok (.aload_n 0, 1) := by decide +kernel
theorem dX5_appendShow_66 : decode cX5_appendShow 66 = .ok (.getfield 10, 3) := by decide +kernel
theorem dX5_appendShow_69 : decode cX5_appendShow 69 = .ok (.getfield 210, 3) := by decide +kernel
theorem dX5_appendShow_72 : decode cX5_appendShow 72 = .ok (.iload_n 1, 1) := by decide +kernel
theorem dX5_appendShow_73 : decode cX5_appendShow 73 = .ok (.iconst 1, 1) := by decide +kernel
theorem dX5_appendShow_74 : decode cX5_appendShow 74 = .ok (.invokevirtual 126, 3) := by decide +kernel
theorem dX5_appendShow_77 : decode cX5_appendShow 77 = .ok (.invokevirtual 446, 3) := by decide +kernel
theorem dX5_appendShow_80 : decode cX5_appendShow 80 = .ok (.pop, 1) := by decide +kernel
theorem dX5_appendShow_81 : decode cX5_appendShow 81 = .ok (.aload_n 0, 1) := by decide +kernel
theorem dX5_appendShow_82 : decode cX5_appendShow 82 = .ok (.getfield 47, 3) := by decide +kernel
theorem dX5_appendShow_85 : decode cX5_appendShow 85 = .ok (.bipush 32, 2) := by decide +kernel
theorem dX5_appendShow_87 : decode cX5_appendShow 87 = .ok (.invokevirtual 377, 3) := by decide +kernel
theorem dX5_appendShow_90 : decode cX5_appendShow 90 = .ok (.pop, 1) := by decide +kernel
theorem dX5_appendShow_91 : decode cX5_appendShow 91 = .ok (.aload_n 0, 1) := by decide +kernel
theorem dX5_appendShow_92 : decode cX5_appendShow 92 = .ok (.getfield 47, 3) := by decide +kernel
theorem dX5_appendShow_95 : decode cX5_appendShow 95 = .ok (.aload_n 0, 1) := by decide +kernel
theorem dX5_appendShow_96 : decode cX5_appendShow 96 = .ok (.getfield 10, 3) := by decide +kernel
theorem dX5_appendShow_99 : decode cX5_appendShow 99 = .ok (.getfield 210, 3) := by decide +kernel
theorem dX5_appendShow_102 : decode cX5_appendShow 102 = .ok (.iload_n 1, 1) := by decide +kernel
theorem dX5_appendShow_103 : decode cX5_appendShow 103 = .ok (.iconst 5, 1) := by decide +kernel
theorem dX5_appendShow_104 : decode cX5_appendShow 104 = .ok (.invokevirtual 126, 3) := by decide +kernel
theorem dX5_appendShow_107 : decode cX5_appendShow 107 = .ok (.invokevirtual 446, 3) := by decide +kernel
theorem dX5_appendShow_110 : decode cX5_appendShow 110 = .ok (.pop, 1) := by decide +kernel
theorem dX5_appendShow_111 : decode cX5_appendShow 111 = .ok (.aload_n 0, 1) := by decide +kernel
theorem dX5_appendShow_112 : decode cX5_appendShow 112 = .ok (.getfield 47, 3) := by decide +kernel
theorem dX5_appendShow_115 : decode cX5_appendShow 115 = .ok (.bipush 47, 2) := by decide +kernel
theorem dX5_appendShow_117 : decode cX5_appendShow 117 = .ok (.invokevirtual 377, 3) := by decide +kernel
theorem dX5_appendShow_120 : decode cX5_appendShow 120 = .ok (.pop, 1) := by decide +kernel
theorem dX5_appendShow_121 : decode cX5_appendShow 121 = .ok (.aload_n 0, 1) := by decide +kernel
theorem dX5_appendShow_122 : decode cX5_appendShow 122 = .ok (.getfield 47, 3) := by decide +kernel
theorem dX5_appendShow_125 : decode cX5_appendShow 125 = .ok (.aload_n 0, 1) := by decide +kernel
theorem dX5_appendShow_126 : decode cX5_appendShow 126 = .ok (.getfield 10, 3) := by decide +kernel
theorem dX5_appendShow_129 : decode cX5_appendShow 129 = .ok (.iload_n 1, 1) := by decide +kernel
theorem dX5_appendShow_130 : decode cX5_appendShow 130 = .ok (.invokevirtual 431, 3) := by decide +kernel
theorem dX5_appendShow_133 : decode cX5_appendShow 133 = .ok (.invokevirtual 446, 3) := by decide +kernel
theorem dX5_appendShow_136 : decode cX5_appendShow 136 = .ok (.pop, 1) := by decide +kernel
theorem dX5_appendShow_137 : decode cX5_appendShow 137 = .ok (.return_, 1) := by decide +kernel
set_option maxRecDepth 20000 in
theorem ggX5_isCarriedOut_X4_get : GoodIn wsX5_isCarriedOut wsX4_get := goodIn_ca (goodIn_r _ [9, 10, 11, 254, 255, 256, 257] (by decide +kernel) (by decide +kernel)) (goodIn_sub (fun _ h => List.mem_cons_of_mem _ (List.mem_append_right _ h)) (by decide +kernel))
set_option maxRecDepth 20000 in
theorem gX5_isCarriedOut_X4_get : GoodIn wsX5_isCarriedOut (wsV RX5 126 RX4 yX4_get wsX4_get) := goodIn_app (goodIn_of _ (by decide +kernel)) ggX5_isCarriedOut_X4_get
set_option maxRecDepth 20000 in
theorem ggX5_isCarriedOut_X5_faultOfPlan : GoodIn wsX5_isCarriedOut wsX5_faultOfPlan := goodIn_ca (goodIn_r _ [16, 3, 17, 18, 19, 20, 21, 22, 23, 24, 8, 25, 26, 27, 28, 15, 29, 30, 31, 32, 33, 34, 35, 36, 37, 38, 39, 40, 41, 42, 43, 44, 45, 46, 47, 48, 49, 50, 51, 6, 7, 9, 10, 11, 52, 53, 54, 55, 56, 57, 58, 59, 60, 61, 62, 63, 64, 65, 66, 67, 68, 69, 70, 71, 72, 73, 74, 75, 76, 77, 78, 79, 80, 81, 82, 83, 84, 85, 86, 87, 88, 89, 90, 91, 92, 93, 94, 95, 96, 97, 98, 99, 100, 101, 102, 103, 104, 105, 106, 107, 108, 109, 110, 111, 112, 113, 114, 115, 116, 117, 118, 119, 120, 121, 122, 123, 124, 125, 126, 127, 128, 129, 130, 131, 132, 133, 134, 135, 136, 137, 138, 139, 140, 141, 142, 143, 144, 145, 146, 147, 233, 234, 235, 236, 237, 238, 239, 240, 241, 242, 243, 246, 247, 248, 249, 250, 251, 252, 253, 258, 259, 260, 261, 254, 255, 256, 257] (by decide +kernel) (by decide +kernel)) (goodIn_sub (fun _ h => List.mem_cons_of_mem _ (List.mem_append_right _ h)) (by decide +kernel))
set_option maxRecDepth 20000 in
theorem gX5_isCarriedOut_X5_faultOfPlan : GoodIn wsX5_isCarriedOut (wsV RX5 194 RX5 yX5_faultOfPlan wsX5_faultOfPlan) := goodIn_app (goodIn_of _ (by decide +kernel)) ggX5_isCarriedOut_X5_faultOfPlan
set_option maxRecDepth 20000 in
theorem ggX5_isCarriedOut_X3_addShow : GoodIn wsX5_isCarriedOut wsX3_addShow := goodIn_ca (goodIn_r _ [151, 64, 84, 50, 85, 86, 87, 48, 88, 89, 51, 6, 7, 8, 9, 10, 11, 90, 57, 58, 59, 26, 91, 92, 93, 94, 95, 96, 97, 98, 99, 100, 101, 102, 103, 104, 105, 106, 107, 108, 152, 72, 73, 74, 75, 153, 77, 78, 79, 246, 247, 248, 249, 250, 251, 252, 253, 254, 255, 256, 257] (by decide +kernel) (by decide +kernel)) (goodIn_sub (fun _ h => List.mem_cons_of_mem _ (List.mem_append_right _ h)) (by decide +kernel))
set_option maxRecDepth 20000 in
theorem gX5_isCarriedOut_X3_addShow : GoodIn wsX5_isCarriedOut (wsV RX5 207 RX3 yX3_addShow wsX3_addShow) := goodIn_app (goodIn_of _ (by decide +kernel)) ggX5_isCarriedOut_X3_addShow
set_option maxRecDepth 20000 in
theorem ggX5_isCarriedOut_X5_faultOfSell : GoodIn wsX5_isCarriedOut wsX5_faultOfSell := goodIn_ca (goodIn_r _ [157, 3, 21, 22, 23, 24, 8, 25, 26, 30, 31, 15, 32, 158, 159, 160, 48, 161, 162, 163, 164, 165, 64, 166, 167, 168, 169, 170, 51, 6, 7, 9, 10, 11, 171, 172, 173, 174, 124, 5, 141, 142, 143, 144, 145, 146, 233, 234, 235, 236, 237, 238, 239, 240, 241, 242, 243, 246, 247, 248, 249, 250, 251, 252, 253, 254, 255, 256, 257] (by decide +kernel) (by decide +kernel)) (goodIn_sub (fun _ h => List.mem_cons_of_mem _ (List.mem_append_right _ h)) (by decide +kernel))
set_option maxRecDepth 20000 in
theorem gX5_isCarriedOut_X5_faultOfSell : GoodIn wsX5_isCarriedOut (wsV RX5 246 RX5 yX5_faultOfSell wsX5_faultOfSell) := goodIn_app (goodIn_of _ (by decide +kernel)) ggX5_isCarriedOut_X5_faultOfSell
set_option maxRecDepth 20000 in
theorem ggX5_isCarriedOut_X3_addTickets : GoodIn wsX5_isCarriedOut wsX3_addTickets := goodIn_ca (goodIn_r _ [178, 64, 51, 6, 7, 8, 9, 10, 11, 153, 77, 78, 79, 246, 247, 248, 249, 250, 251, 252, 253, 254, 255, 256, 257] (by decide +kernel) (by decide +kernel)) (goodIn_sub (fun _ h => List.mem_cons_of_mem _ (List.mem_append_right _ h)) (by decide +kernel))
set_option maxRecDepth 20000 in
theorem gX5_isCarriedOut_X3_addTickets : GoodIn wsX5_isCarriedOut (wsV RX5 253 RX3 yX3_addTickets wsX3_addTickets) := goodIn_app (goodIn_of _ (by decide +kernel)) ggX5_isCarriedOut_X3_addTickets
set_option maxRecDepth 20000 in
theorem ggX5_isCarriedOut_X5_faultOfCancel : GoodIn wsX5_isCarriedOut wsX5_faultOfCancel := goodIn_ca (goodIn_r _ [182, 3, 21, 22, 23, 24, 8, 25, 26, 158, 159, 160, 48, 161, 162, 163, 164, 165, 64, 166, 167, 168, 169, 170, 51, 6, 7, 9, 10, 11, 233, 234, 235, 236, 237, 238, 239, 240, 241, 242, 243, 246, 247, 248, 249, 250, 251, 252, 253, 254, 255, 256, 257] (by decide +kernel) (by decide +kernel)) (goodIn_sub (fun _ h => List.mem_cons_of_mem _ (List.mem_append_right _ h)) (by decide +kernel))
set_option maxRecDepth 20000 in
theorem gX5_isCarriedOut_X5_faultOfCancel : GoodIn wsX5_isCarriedOut (wsV RX5 238 RX5 yX5_faultOfCancel wsX5_faultOfCancel) := goodIn_app (goodIn_of _ (by decide +kernel)) ggX5_isCarriedOut_X5_faultOfCancel
set_option maxRecDepth 20000 in
theorem ggX5_isCarriedOut_X3_dropShow : GoodIn wsX5_isCarriedOut wsX3_dropShow := goodIn_ca (goodIn_r _ [186, 64, 187, 51, 6, 7, 8, 9, 10, 11, 153, 77, 78, 79, 246, 247, 248, 249, 250, 251, 252, 253, 254, 255, 256, 257] (by decide +kernel) (by decide +kernel)) (goodIn_sub (fun _ h => List.mem_cons_of_mem _ (List.mem_append_right _ h)) (by decide +kernel))
set_option maxRecDepth 20000 in
theorem gX5_isCarriedOut_X3_dropShow : GoodIn wsX5_isCarriedOut (wsV RX5 243 RX3 yX3_dropShow wsX3_dropShow) := goodIn_app (goodIn_of _ (by decide +kernel)) ggX5_isCarriedOut_X3_dropShow
set_option maxRecDepth 20000 in
theorem ggX5_isCarriedOut_X5_faultOfFail : GoodIn wsX5_isCarriedOut wsX5_faultOfFail := goodIn_ca (goodIn_r _ [191, 3, 17, 4, 22, 23, 24, 8, 25, 26, 30, 31, 15, 32, 5, 6, 7, 9, 10, 11, 233, 234, 235, 236, 237, 238, 239, 240, 241, 242, 243, 246, 247, 248, 249, 250, 251, 252, 253, 254, 255, 256, 257] (by decide +kernel) (by decide +kernel)) (goodIn_sub (fun _ h => List.mem_cons_of_mem _ (List.mem_append_right _ h)) (by decide +kernel))
set_option maxRecDepth 20000 in
theorem gX5_isCarriedOut_X5_faultOfFail : GoodIn wsX5_isCarriedOut (wsV RX5 281 RX5 yX5_faultOfFail wsX5_faultOfFail) := goodIn_app (goodIn_of _ (by decide +kernel)) ggX5_isCarriedOut_X5_faultOfFail
set_option maxRecDepth 20000 in
theorem ggX5_isCarriedOut_X5_closeHall : GoodIn wsX5_isCarriedOut wsX5_closeHall := goodIn_ca (goodIn_r _ [195, 3, 17, 196, 197, 77, 78, 8, 79, 10, 11, 198, 199, 200, 15, 201, 21, 202, 53, 54, 55, 26, 203, 204, 205, 48, 206, 64, 90, 57, 58, 59, 51, 6, 7, 9, 207, 208, 209, 210, 5, 211, 72, 73, 74, 75, 147, 212, 213, 214, 215, 19, 216, 217, 218, 219, 220, 46, 47, 49, 50, 36, 37, 38, 39, 40, 41, 42, 43, 44, 45, 52, 56, 60, 61, 62, 63, 65, 66, 67, 68, 69, 70, 71, 76, 33, 34, 35, 30, 31, 32, 109, 110, 111, 112, 113, 114, 115, 116, 117, 118, 119, 120, 121, 122, 123, 124, 125, 126, 127, 128, 129, 130, 131, 132, 133, 134, 135, 136, 137, 138, 139, 140, 221, 222, 223, 224, 225, 226, 227, 228, 153, 183, 184, 185, 186, 187, 233, 234, 235, 236, 237, 238, 239, 240, 241, 242, 243, 246, 247, 248, 249, 250, 251, 252, 253, 254, 255, 256, 257, 258, 259, 260, 261] (by decide +kernel) (by decide +kernel)) (goodIn_sub (fun _ h => List.mem_cons_of_mem _ (List.mem_append_right _ h)) (by decide +kernel))
set_option maxRecDepth 20000 in
theorem gX5_isCarriedOut_X5_closeHall : GoodIn wsX5_isCarriedOut (wsV RX5 288 RX5 yX5_closeHall wsX5_closeHall) := goodIn_app (goodIn_of _ (by decide +kernel)) ggX5_isCarriedOut_X5_closeHall
set_option maxRecDepth 20000 in
theorem ggX5_isCarriedOut_X5_faultOfAdvance : GoodIn wsX5_isCarriedOut wsX5_faultOfAdvance := goodIn_r _ [232, 3, 4, 30, 31, 15, 32, 233, 234, 235, 236, 237, 238, 239, 240, 241, 242, 243, 246, 247, 248, 249, 250, 251, 252, 253] (by decide +kernel) (by decide +kernel)
set_option maxRecDepth 20000 in
theorem gX5_isCarriedOut_X5_faultOfAdvance : GoodIn wsX5_isCarriedOut (wsV RX5 325 RX5 yX5_faultOfAdvance wsX5_faultOfAdvance) := goodIn_app (goodIn_of _ (by decide +kernel)) ggX5_isCarriedOut_X5_faultOfAdvance
theorem dX5_isCarriedOut_0 : decode cX5_isCarriedOut 0 = .ok (.aload_n 0, 1) := by decide +kernel
theorem dX5_isCarriedOut_1 : decode cX5_isCarriedOut 1 = .ok (.getfield 36, 3) := by decide +kernel
theorem dX5_isCarriedOut_4 : decode cX5_isCarriedOut 4 = .ok (.getfield 392, 3) := by decide +kernel
theorem dX5_isCarriedOut_7 : decode cX5_isCarriedOut 7 = .ok (.iload_n 1, 1) := by decide +kernel
theorem dX5_isCarriedOut_8 : decode cX5_isCarriedOut 8 = .ok (.iconst 1, 1) := by decide +kernel
theorem dX5_isCarriedOut_9 : decode cX5_isCarriedOut 9 = .ok (.invokevirtual 126, 3) := by decide +kernel
theorem dX5_isCarriedOut_12 : decode cX5_isCarriedOut 12 = .ok (.istore_n 2, 1) := by decide +kernel
theorem dX5_isCarriedOut_13 : decode cX5_isCarriedOut 13 = .ok (.aload_n 0, 1) := by decide +kernel
theorem dX5_isCarriedOut_14 : decode cX5_isCarriedOut 14 = .ok (.getfield 36, 3) := by decide +kernel
theorem dX5_isCarriedOut_17 : decode cX5_isCarriedOut 17 = .ok (.getfield 392, 3) := by decide +kernel
theorem dX5_isCarriedOut_20 : decode cX5_isCarriedOut 20 = .ok (.iload_n 1, 1) := by decide +kernel
theorem dX5_isCarriedOut_21 : decode cX5_isCarriedOut 21 = .ok (.iconst 2, 1) := by decide +kernel
theorem dX5_isCarriedOut_22 : decode cX5_isCarriedOut 22 = .ok (.invokevirtual 126, 3) := by decide +kernel
theorem dX5_isCarriedOut_25 : decode cX5_isCarriedOut 25 = .ok (.istore_n 3, 1) := by decide +kernel
theorem dX5_isCarriedOut_26 : decode cX5_isCarriedOut 26 = .ok (.aload_n 0, 1) := by decide +kernel
theorem dX5_isCarriedOut_27 : decode cX5_isCarriedOut 27 = .ok (.getfield 36, 3) := by decide +kernel
theorem dX5_isCarriedOut_30 : decode cX5_isCarriedOut 30 = .ok (.getfield 392, 3) := by decide +kernel
theorem dX5_isCarriedOut_33 : decode cX5_isCarriedOut 33 = .ok (.iload_n 1, 1) := by decide +kernel
theorem dX5_isCarriedOut_34 : decode cX5_isCarriedOut 34 = .ok (.iconst 3, 1) := by decide +kernel
theorem dX5_isCarriedOut_35 : decode cX5_isCarriedOut 35 = .ok (.invokevirtual 126, 3) := by decide +kernel
theorem dX5_isCarriedOut_38 : decode cX5_isCarriedOut 38 = .ok (.istore 4, 2) := by decide +kernel
theorem dX5_isCarriedOut_40 : decode cX5_isCarriedOut 40 = .ok (.aload_n 0, 1) := by decide +kernel
theorem dX5_isCarriedOut_41 : decode cX5_isCarriedOut 41 = .ok (.getfield 36, 3) := by decide +kernel
theorem dX5_isCarriedOut_44 : decode cX5_isCarriedOut 44 = .ok (.getfield 392, 3) := by decide +kernel
theorem dX5_isCarriedOut_47 : decode cX5_isCarriedOut 47 = .ok (.iload_n 1, 1) := by decide +kernel
theorem dX5_isCarriedOut_48 : decode cX5_isCarriedOut 48 = .ok (.iconst 4, 1) := by decide +kernel
theorem dX5_isCarriedOut_49 : decode cX5_isCarriedOut 49 = .ok (.invokevirtual 126, 3) := by decide +kernel
theorem dX5_isCarriedOut_52 : decode cX5_isCarriedOut 52 = .ok (.istore 5, 2) := by decide +kernel
theorem dX5_isCarriedOut_54 : decode cX5_isCarriedOut 54 = .ok (.aload_n 0, 1) := by decide +kernel
theorem dX5_isCarriedOut_55 : decode cX5_isCarriedOut 55 = .ok (.getfield 36, 3) := by decide +kernel
theorem dX5_isCarriedOut_58 : decode cX5_isCarriedOut 58 = .ok (.getfield 392, 3) := by decide +kernel
theorem dX5_isCarriedOut_61 : decode cX5_isCarriedOut 61 = .ok (.iload_n 1, 1) := by decide +kernel
theorem dX5_isCarriedOut_62 : decode cX5_isCarriedOut 62 = .ok (.iconst 0, 1) := by decide +kernel
theorem dX5_isCarriedOut_63 : decode cX5_isCarriedOut 63 = .ok (.invokevirtual 126, 3) := by decide +kernel
theorem dX5_isCarriedOut_66 : decode cX5_isCarriedOut 66 = .ok (.tableswitch 141 0 4 #[34, 68, 94, 118, 141], 34) := by decide +kernel
theorem dX5_isCarriedOut_100 : decode cX5_isCarriedOut 100 = .ok (.aload_n 0, 1) := by decide +kernel
theorem dX5_isCarriedOut_101 : decode cX5_isCarriedOut 101 = .ok (.iload_n 2, 1) := by decide +kernel
theorem dX5_isCarriedOut_102 : decode cX5_isCarriedOut 102 = .ok (.iload_n 3, 1) := by decide +kernel
theorem dX5_isCarriedOut_103 : decode cX5_isCarriedOut 103 = .ok (.iload 4, 2) := by decide +kernel
theorem dX5_isCarriedOut_105 : decode cX5_isCarriedOut 105 = .ok (.iload 5, 2) := by decide +kernel
theorem dX5_isCarriedOut_107 : decode cX5_isCarriedOut 107 = .ok (.invokevirtual 194, 3) := by decide +kernel
theorem dX5_isCarriedOut_110 : decode cX5_isCarriedOut 110 = .ok (.istore 6, 2) := by decide +kernel
theorem dX5_isCarriedOut_112 : decode cX5_isCarriedOut 112 = .ok (.iload 6, 2) := by decide +kernel
theorem dX5_isCarriedOut_114 : decode cX5_isCarriedOut 114 = .ok (.ifCond .ne 118, 3) := by decide +kernel
theorem dX5_isCarriedOut_117 : decode cX5_isCarriedOut 117 = .ok (.aload_n 0, 1) := by decide +kernel
theorem dX5_isCarriedOut_118 : decode cX5_isCarriedOut 118 = .ok (.getfield 10, 3) := by decide +kernel
theorem dX5_isCarriedOut_121 : decode cX5_isCarriedOut 121 = .ok (.iload_n 2, 1) := by decide +kernel
theorem dX5_isCarriedOut_122 : decode cX5_isCarriedOut 122 = .ok (.iload_n 3, 1) := by decide +kernel
theorem dX5_isCarriedOut_123 : decode cX5_isCarriedOut 123 = .ok (.iload 4, 2) := by decide +kernel
theorem dX5_isCarriedOut_125 : decode cX5_isCarriedOut 125 = .ok (.iload 5, 2) := by decide +kernel
theorem dX5_isCarriedOut_127 : decode cX5_isCarriedOut 127 = .ok (.invokevirtual 207, 3) := by decide +kernel
theorem dX5_isCarriedOut_130 : decode cX5_isCarriedOut 130 = .ok (.pop, 1) := by decide +kernel
theorem dX5_isCarriedOut_131 : decode cX5_isCarriedOut 131 = .ok (.goto 101, 3) := by decide +kernel
theorem dX5_isCarriedOut_134 : decode cX5_isCarriedOut 134 = .ok (.aload_n 0, 1) := by decide +kernel
theorem dX5_isCarriedOut_135 : decode cX5_isCarriedOut 135 = .ok (.iload_n 2, 1) := by decide +kernel
theorem dX5_isCarriedOut_136 : decode cX5_isCarriedOut 136 = .ok (.iload_n 3, 1) := by decide +kernel
theorem dX5_isCarriedOut_137 : decode cX5_isCarriedOut 137 = .ok (.invokevirtual 246, 3) := by decide +kernel
theorem dX5_isCarriedOut_140 : decode cX5_isCarriedOut 140 = .ok (.istore 6, 2) := by decide +kernel
theorem dX5_isCarriedOut_142 : decode cX5_isCarriedOut 142 = .ok (.iload 6, 2) := by decide +kernel
theorem dX5_isCarriedOut_144 : decode cX5_isCarriedOut 144 = .ok (.ifCond .ne 88, 3) := by decide +kernel
theorem dX5_isCarriedOut_147 : decode cX5_isCarriedOut 147 = .ok (.aload_n 0, 1) := by decide +kernel
theorem dX5_isCarriedOut_148 : decode cX5_isCarriedOut 148 = .ok (.getfield 10, 3) := by decide +kernel
theorem dX5_isCarriedOut_151 : decode cX5_isCarriedOut 151 = .ok (.iload_n 2, 1) := by decide +kernel
theorem dX5_isCarriedOut_152 : decode cX5_isCarriedOut 152 = .ok (.iload_n 3, 1) := by decide +kernel
theorem dX5_isCarriedOut_153 : decode cX5_isCarriedOut 153 = .ok (.invokevirtual 253, 3) := by decide +kernel
theorem dX5_isCarriedOut_156 : decode cX5_isCarriedOut 156 = .ok (.pop, 1) := by decide +kernel
theorem dX5_isCarriedOut_157 : decode cX5_isCarriedOut 157 = .ok (.goto 75, 3) := by decide +kernel
theorem dX5_isCarriedOut_160 : decode cX5_isCarriedOut 160 = .ok (.aload_n 0, 1) := by decide +kernel
theorem dX5_isCarriedOut_161 : decode cX5_isCarriedOut 161 = .ok (.iload_n 2, 1) := by decide +kernel
theorem dX5_isCarriedOut_162 : decode cX5_isCarriedOut 162 = .ok (.invokevirtual 238, 3) := by decide +kernel
theorem dX5_isCarriedOut_165 : decode cX5_isCarriedOut 165 = .ok (.istore 6, 2) := by decide +kernel
theorem dX5_isCarriedOut_167 : decode cX5_isCarriedOut 167 = .ok (.iload 6, 2) := by decide +kernel
theorem dX5_isCarriedOut_169 : decode cX5_isCarriedOut 169 = .ok (.ifCond .ne 63, 3) := by decide +kernel
theorem dX5_isCarriedOut_172 : decode cX5_isCarriedOut 172 = .ok (.aload_n 0, 1) := by decide +kernel
theorem dX5_isCarriedOut_173 : decode cX5_isCarriedOut 173 = .ok (.getfield 10, 3) := by decide +kernel
theorem dX5_isCarriedOut_176 : decode cX5_isCarriedOut 176 = .ok (.iload_n 2, 1) := by decide +kernel
theorem dX5_isCarriedOut_177 : decode cX5_isCarriedOut 177 = .ok (.invokevirtual 243, 3) := by decide +kernel
theorem dX5_isCarriedOut_180 : decode cX5_isCarriedOut 180 = .ok (.pop, 1) := by decide +kernel
theorem dX5_isCarriedOut_181 : decode cX5_isCarriedOut 181 = .ok (.goto 51, 3) := by decide +kernel
theorem dX5_isCarriedOut_184 : decode cX5_isCarriedOut 184 = .ok (.aload_n 0, 1) := by decide +kernel
theorem dX5_isCarriedOut_185 : decode cX5_isCarriedOut 185 = .ok (.iload_n 2, 1) := by decide +kernel
theorem dX5_isCarriedOut_186 : decode cX5_isCarriedOut 186 = .ok (.iload_n 3, 1) := by decide +kernel
theorem dX5_isCarriedOut_187 : decode cX5_isCarriedOut 187 = .ok (.invokevirtual 281, 3) := by decide +kernel
theorem dX5_isCarriedOut_190 : decode cX5_isCarriedOut 190 = .ok (.istore 6, 2) := by decide +kernel
theorem dX5_isCarriedOut_192 : decode cX5_isCarriedOut 192 = .ok (.iload 6, 2) := by decide +kernel
theorem dX5_isCarriedOut_194 : decode cX5_isCarriedOut 194 = .ok (.ifCond .ne 38, 3) := by decide +kernel
theorem dX5_isCarriedOut_197 : decode cX5_isCarriedOut 197 = .ok (.aload_n 0, 1) := by decide +kernel
theorem dX5_isCarriedOut_198 : decode cX5_isCarriedOut 198 = .ok (.iload_n 2, 1) := by decide +kernel
theorem dX5_isCarriedOut_199 : decode cX5_isCarriedOut 199 = .ok (.iload_n 3, 1) := by decide +kernel
theorem dX5_isCarriedOut_200 : decode cX5_isCarriedOut 200 = .ok (.invokevirtual 288, 3) := by decide +kernel
theorem dX5_isCarriedOut_203 : decode cX5_isCarriedOut 203 = .ok (.pop, 1) := by decide +kernel
theorem dX5_isCarriedOut_204 : decode cX5_isCarriedOut 204 = .ok (.goto 28, 3) := by decide +kernel
theorem dX5_isCarriedOut_207 : decode cX5_isCarriedOut 207 = .ok (.aload_n 0, 1) := by decide +kernel
theorem dX5_isCarriedOut_208 : decode cX5_isCarriedOut 208 = .ok (.iload_n 2, 1) := by decide +kernel
theorem dX5_isCarriedOut_209 : decode cX5_isCarriedOut 209 = .ok (.invokevirtual 325, 3) := by decide +kernel
theorem dX5_isCarriedOut_212 : decode cX5_isCarriedOut 212 = .ok (.istore 6, 2) := by decide +kernel
theorem dX5_isCarriedOut_214 : decode cX5_isCarriedOut 214 = .ok (.iload 6, 2) := by decide +kernel
theorem dX5_isCarriedOut_216 : decode cX5_isCarriedOut 216 = .ok (.ifCond .ne 16, 3) := by decide +kernel
theorem dX5_isCarriedOut_219 : decode cX5_isCarriedOut 219 = .ok (.aload_n 0, 1) := by decide +kernel
theorem dX5_isCarriedOut_220 : decode cX5_isCarriedOut 220 = .ok (.getfield 10, 3) := by decide +kernel
theorem dX5_isCarriedOut_223 : decode cX5_isCarriedOut 223 = .ok (.dup, 1) := by decide +kernel
theorem dX5_isCarriedOut_224 : decode cX5_isCarriedOut 224 = .ok (.getfield 330, 3) := by decide +kernel
theorem dX5_isCarriedOut_227 : decode cX5_isCarriedOut 227 = .ok (.iload_n 2, 1) := by decide +kernel
theorem dX5_isCarriedOut_228 : decode cX5_isCarriedOut 228 = .ok (.iadd, 1) := by decide +kernel
theorem dX5_isCarriedOut_229 : decode cX5_isCarriedOut 229 = .ok (.putfield 330, 3) := by decide +kernel
theorem dX5_isCarriedOut_232 : decode cX5_isCarriedOut 232 = .ok (.iload 6, 2) := by decide +kernel
theorem dX5_isCarriedOut_234 : decode cX5_isCarriedOut 234 = .ok (.ifCond .ne 7, 3) := by decide +kernel
theorem dX5_isCarriedOut_237 : decode cX5_isCarriedOut 237 = .ok (.iconst 1, 1) := by decide +kernel
theorem dX5_isCarriedOut_238 : decode cX5_isCarriedOut 238 = .ok (.goto 4, 3) := by decide +kernel
theorem dX5_isCarriedOut_241 : decode cX5_isCarriedOut 241 = .ok (.iconst 0, 1) := by decide +kernel
theorem dX5_isCarriedOut_242 : decode cX5_isCarriedOut 242 = .ok (.ireturn, 1) := by decide +kernel
theorem dX6_init_0 : decode cX6_init 0 = .ok (.aload_n 0, 1) := by decide +kernel
theorem dX6_init_1 : decode cX6_init 1 = .ok (.invokespecial 1, 3) := by decide +kernel
theorem dX6_init_4 : decode cX6_init 4 = .ok (.aload_n 0, 1) := by decide +kernel
theorem dX6_init_5 : decode cX6_init 5 = .ok (.sipush 580, 3) := by decide +kernel
theorem dX6_init_8 : decode cX6_init 8 = .ok (.newarray .int, 2) := by decide +kernel
theorem dX6_init_10 : decode cX6_init 10 = .ok (.putfield 9, 3) := by decide +kernel
theorem dX6_init_13 : decode cX6_init 13 = .ok (.aload_n 0, 1) := by decide +kernel
theorem dX6_init_14 : decode cX6_init 14 = .ok (.sipush 4640, 3) := by decide +kernel
theorem dX6_init_17 : decode cX6_init 17 = .ok (.newarray .int, 2) := by decide +kernel
theorem dX6_init_19 : decode cX6_init 19 = .ok (.putfield 13, 3) := by decide +kernel
theorem dX6_init_22 : decode cX6_init 22 = .ok (.aload_n 0, 1) := by decide +kernel
theorem dX6_init_23 : decode cX6_init 23 = .ok (.sipush 580, 3) := by decide +kernel
theorem dX6_init_26 : decode cX6_init 26 = .ok (.newarray .int, 2) := by decide +kernel
theorem dX6_init_28 : decode cX6_init 28 = .ok (.putfield 16, 3) := by decide +kernel
theorem dX6_init_31 : decode cX6_init 31 = .ok (.aload_n 0, 1) := by decide +kernel
theorem dX6_init_32 : decode cX6_init 32 = .ok (.sipush 580, 3) := by decide +kernel
theorem dX6_init_35 : decode cX6_init 35 = .ok (.newarray .int, 2) := by decide +kernel
theorem dX6_init_37 : decode cX6_init 37 = .ok (.putfield 19, 3) := by decide +kernel
theorem dX6_init_40 : decode cX6_init 40 = .ok (.aload_n 0, 1) := by decide +kernel
theorem dX6_init_41 : decode cX6_init 41 = .ok (.bipush 60, 2) := by decide +kernel
theorem dX6_init_43 : decode cX6_init 43 = .ok (.newarray .char, 2) := by decide +kernel
theorem dX6_init_45 : decode cX6_init 45 = .ok (.putfield 22, 3) := by decide +kernel
theorem dX6_init_48 : decode cX6_init 48 = .ok (.aload_n 0, 1) := by decide +kernel
theorem dX6_init_49 : decode cX6_init 49 = .ok (.iconst (-1), 1) := by decide +kernel
theorem dX6_init_50 : decode cX6_init 50 = .ok (.putfield 26, 3) := by decide +kernel
theorem dX6_init_53 : decode cX6_init 53 = .ok (.aload_n 0, 1) := by decide +kernel
theorem dX6_init_54 : decode cX6_init 54 = .ok (.sipush 1200, 3) := by decide +kernel
theorem dX6_init_57 : decode cX6_init 57 = .ok (.newarray .char, 2) := by decide +kernel
theorem dX6_init_59 : decode cX6_init 59 = .ok (.putfield 30, 3) := by decide +kernel
theorem dX6_init_62 : decode cX6_init 62 = .ok (.aload_n 0, 1) := by decide +kernel
theorem dX6_init_63 : decode cX6_init 63 = .ok (.sipush 300, 3) := by decide +kernel
theorem dX6_init_66 : decode cX6_init 66 = .ok (.newarray .int, 2) := by decide +kernel
theorem dX6_init_68 : decode cX6_init 68 = .ok (.putfield 33, 3) := by decide +kernel
theorem dX6_init_71 : decode cX6_init 71 = .ok (.aload_n 0, 1) := by decide +kernel
theorem dX6_init_72 : decode cX6_init 72 = .ok (.getfield 9, 3) := by decide +kernel
theorem dX6_init_75 : decode cX6_init 75 = .ok (.bipush 8, 2) := by decide +kernel
theorem dX6_init_77 : decode cX6_init 77 = .ok (.bipush 10, 2) := by decide +kernel
theorem dX6_init_79 : decode cX6_init 79 = .ok (.iastore, 1) := by decide +kernel
theorem dX6_init_80 : decode cX6_init 80 = .ok (.aload_n 0, 1) := by decide +kernel
theorem dX6_init_81 : decode cX6_init 81 = .ok (.getfield 9, 3) := by decide +kernel
theorem dX6_init_84 : decode cX6_init 84 = .ok (.bipush 9, 2) := by decide +kernel
theorem dX6_init_86 : decode cX6_init 86 = .ok (.iconst 2, 1) := by decide +kernel
theorem dX6_init_87 : decode cX6_init 87 = .ok (.iastore, 1) := by decide +kernel
theorem dX6_init_88 : decode cX6_init 88 = .ok (.aload_n 0, 1) := by decide +kernel
theorem dX6_init_89 : decode cX6_init 89 = .ok (.getfield 9, 3) := by decide +kernel
theorem dX6_init_92 : decode cX6_init 92 = .ok (.bipush 10, 2) := by decide +kernel
theorem dX6_init_94 : decode cX6_init 94 = .ok (.bipush 15, 2) := by decide +kernel
theorem dX6_init_96 : decode cX6_init 96 = .ok (.iastore, 1) := by decide +kernel
theorem dX6_init_97 : decode cX6_init 97 = .ok (.aload_n 0, 1) := by decide +kernel
theorem dX6_init_98 : decode cX6_init 98 = .ok (.getfield 9, 3) := by decide +kernel
theorem dX6_init_101 : decode cX6_init 101 = .ok (.bipush 11, 2) := by decide +kernel
theorem dX6_init_103 : decode cX6_init 103 = .ok (.bipush 10, 2) := by decide +kernel
theorem dX6_init_105 : decode cX6_init 105 = .ok (.iastore, 1) := by decide +kernel
theorem dX6_init_106 : decode cX6_init 106 = .ok (.aload_n 0, 1) := by decide +kernel
theorem dX6_init_107 : decode cX6_init 107 = .ok (.getfield 9, 3) := by decide +kernel
theorem dX6_init_110 : decode cX6_init 110 = .ok (.bipush 12, 2) := by decide +kernel
theorem dX6_init_112 : decode cX6_init 112 = .ok (.bipush 60, 2) := by decide +kernel
theorem dX6_init_114 : decode cX6_init 114 = .ok (.iastore, 1) := by decide +kernel
theorem dX6_init_115 : decode cX6_init 115 = .ok (.aload_n 0, 1) := by decide +kernel
theorem dX6_init_116 : decode cX6_init 116 = .ok (.getfield 9, 3) := by decide +kernel
theorem dX6_init_119 : decode cX6_init 119 = .ok (.bipush 13, 2) := by decide +kernel
theorem dX6_init_121 : decode cX6_init 121 = .ok (.bipush 10, 2) := by decide +kernel
theorem dX6_init_123 : decode cX6_init 123 = .ok (.iastore, 1) := by decide +kernel
theorem dX6_init_124 : decode cX6_init 124 = .ok (.iconst 0, 1) := by decide +kernel
theorem dX6_init_125 : decode cX6_init 125 = .ok (.istore_n 1, 1) := by decide +kernel
theorem dX6_init_126 : decode cX6_init 126 = .ok (.iload_n 1, 1) := by decide +kernel
theorem dX6_init_127 : decode cX6_init 127 = .ok (.bipush 16, 2) := by decide +kernel
theorem dX6_init_129 : decode cX6_init 129 = .ok (.if_icmp .ge 19, 3) := by decide +kernel
theorem dX6_init_132 : decode cX6_init 132 = .ok (.aload_n 0, 1) := by decide +kernel
theorem dX6_init_133 : decode cX6_init 133 = .ok (.getfield 9, 3) := by decide +kernel
theorem dX6_init_136 : decode cX6_init 136 = .ok (.bipush 14, 2) := by decide +kernel
theorem dX6_init_138 : decode cX6_init 138 = .ok (.iload_n 1, 1) := by decide +kernel
theorem dX6_init_139 : decode cX6_init 139 = .ok (.iadd, 1) := by decide +kernel
theorem dX6_init_140 : decode cX6_init 140 = .ok (.iconst 3, 1) := by decide +kernel
theorem dX6_init_141 : decode cX6_init 141 = .ok (.iastore, 1) := by decide +kernel
theorem dX6_init_142 : decode cX6_init 142 = .ok (.iinc 1 1, 3) := by decide +kernel
theorem dX6_init_145 : decode cX6_init 145 = .ok (.goto (-19), 3) := by decide +kernel
theorem dX6_init_148 : decode cX6_init 148 = .ok (.return_, 1) := by decide +kernel
theorem dX6_thrown_0 : decode cX6_thrown 0 = .ok (.aload_n 0, 1) := by decide +kernel
theorem dX6_thrown_1 : decode cX6_thrown 1 = .ok (.getfield 36, 3) := by decide +kernel
theorem dX6_thrown_4 : decode cX6_thrown 4 = .ok (.ireturn, 1) := by decide +kernel
theorem dX6_in_0 : decode cX6_in 0 = .ok (.iload_n 0, 1) := by decide +kernel
theorem dX6_in_1 : decode cX6_in 1 = .ok (.iload_n 1, 1) := by decide +kernel
theorem dX6_in_2 : decode cX6_in 2 = .ok (.if_icmp .lt 12, 3) := by decide +kernel
theorem dX6_in_5 : decode cX6_in 5 = .ok (.iload_n 0, 1) := by decide +kernel
theorem dX6_in_6 : decode cX6_in 6 = .ok (.iload_n 2, 1) := by decide +kernel
theorem dX6_in_7 : decode cX6_in 7 = .ok (.if_icmp .gt 7, 3) := by decide +kernel
theorem dX6_in_10 : decode cX6_in 10 = .ok (.iconst 1, 1) := by decide +kernel
theorem dX6_in_11 : decode cX6_in 11 = .ok (.goto 4, 3) := by decide +kernel
theorem dX6_in_14 : decode cX6_in 14 = .ok (.iconst 0, 1) := by decide +kernel
theorem dX6_in_15 : decode cX6_in 15 = .ok (.ireturn, 1) := by decide +kernel
theorem dX6_fails_0 : decode cX6_fails 0 = .ok (.aload_n 0, 1) := by decide +kernel
theorem dX6_fails_1 : decode cX6_fails 1 = .ok (.iload_n 1, 1) := by decide +kernel
theorem dX6_fails_2 : decode cX6_fails 2 = .ok (.putfield 36, 3) := by decide +kernel
theorem dX6_fails_5 : decode cX6_fails 5 = .ok (.iconst 0, 1) := by decide +kernel
theorem dX6_fails_6 : decode cX6_fails 6 = .ok (.ireturn, 1) := by decide +kernel
theorem dX6_done_0 : decode cX6_done 0 = .ok (.aload_n 0, 1) := by decide +kernel
theorem dX6_done_1 : decode cX6_done 1 = .ok (.iconst 0, 1) := by decide +kernel
theorem dX6_done_2 : decode cX6_done 2 = .ok (.putfield 36, 3) := by decide +kernel
theorem dX6_done_5 : decode cX6_done 5 = .ok (.iload_n 1, 1) := by decide +kernel
theorem dX6_done_6 : decode cX6_done 6 = .ok (.ireturn, 1) := by decide +kernel
set_option maxRecDepth 20000 in
theorem ggX6_refuses_X6_fails : GoodIn wsX6_refuses wsX6_fails := goodIn_r _ [7, 8, 9, 10, 11, 12, 13, 14, 15, 16, 17, 18, 19, 20, 21, 22, 23, 24, 25, 26, 27, 28, 29, 30, 31, 32, 33, 34, 35] (by decide +kernel) (by decide +kernel)
set_option maxRecDepth 20000 in
theorem gX6_refuses_X6_fails : GoodIn wsX6_refuses (wsV RX6 45 RX6 yX6_fails wsX6_fails) := goodIn_app (goodIn_of _ (by decide +kernel)) ggX6_refuses_X6_fails
theorem dX6_refuses_0 : decode cX6_refuses 0 = .ok (.aload_n 0, 1) := by decide +kernel
theorem dX6_refuses_1 : decode cX6_refuses 1 = .ok (.iload_n 1, 1) := by decide +kernel
theorem dX6_refuses_2 : decode cX6_refuses 2 = .ok (.putfield 39, 3) := by decide +kernel
theorem dX6_refuses_5 : decode cX6_refuses 5 = .ok (.aload_n 0, 1) := by decide +kernel
theorem dX6_refuses_6 : decode cX6_refuses 6 = .ok (.iload_n 2, 1) := by decide +kernel
theorem dX6_refuses_7 : decode cX6_refuses 7 = .ok (.putfield 42, 3) := by decide +kernel
theorem dX6_refuses_10 : decode cX6_refuses 10 = .ok (.aload_n 0, 1) := by decide +kernel
theorem dX6_refuses_11 : decode cX6_refuses 11 = .ok (.iload_n 3, 1) := by decide +kernel
theorem dX6_refuses_12 : decode cX6_refuses 12 = .ok (.invokevirtual 45, 3) := by decide +kernel
theorem dX6_refuses_15 : decode cX6_refuses 15 = .ok (.ireturn, 1) := by decide +kernel
theorem dX6_copy_0 : decode cX6_copy 0 = .ok (.iconst 0, 1) := by decide +kernel
theorem dX6_copy_1 : decode cX6_copy 1 = .ok (.istore 4, 2) := by decide +kernel
theorem dX6_copy_3 : decode cX6_copy 3 = .ok (.iload 4, 2) := by decide +kernel
theorem dX6_copy_5 : decode cX6_copy 5 = .ok (.sipush 580, 3) := by decide +kernel
theorem dX6_copy_8 : decode cX6_copy 8 = .ok (.if_icmp .ge 21, 3) := by decide +kernel
theorem dX6_copy_11 : decode cX6_copy 11 = .ok (.aload_n 2, 1) := by decide +kernel
theorem dX6_copy_12 : decode cX6_copy 12 = .ok (.iload_n 3, 1) := by decide +kernel
theorem dX6_copy_13 : decode cX6_copy 13 = .ok (.iload 4, 2) := by decide +kernel
theorem dX6_copy_15 : decode cX6_copy 15 = .ok (.iadd, 1) := by decide +kernel
theorem dX6_copy_16 : decode cX6_copy 16 = .ok (.aload_n 0, 1) := by decide +kernel
theorem dX6_copy_17 : decode cX6_copy 17 = .ok (.iload_n 1, 1) := by decide +kernel
theorem dX6_copy_18 : decode cX6_copy 18 = .ok (.iload 4, 2) := by decide +kernel
theorem dX6_copy_20 : decode cX6_copy 20 = .ok (.iadd, 1) := by decide +kernel
theorem dX6_copy_21 : decode cX6_copy 21 = .ok (.iaload, 1) := by decide +kernel
theorem dX6_copy_22 : decode cX6_copy 22 = .ok (.iastore, 1) := by decide +kernel
theorem dX6_copy_23 : decode cX6_copy 23 = .ok (.iinc 4 1, 3) := by decide +kernel
theorem dX6_copy_26 : decode cX6_copy 26 = .ok (.goto (-23), 3) := by decide +kernel
theorem dX6_copy_29 : decode cX6_copy 29 = .ok (.return_, 1) := by decide +kernel
set_option maxRecDepth 20000 in
theorem ggX6_remembersRow_X6_copy : GoodIn wsX6_remembersRow wsX6_copy := goodIn_ca (goodIn_r _ [6] (by decide +kernel) (by decide +kernel)) (goodIn_sub (fun _ h => List.mem_cons_of_mem _ (List.mem_append_right _ h)) (by decide +kernel))
set_option maxRecDepth 20000 in
theorem gX6_remembersRow_X6_copy : GoodIn wsX6_remembersRow (va_wsS RX6 52 yX6_copy wsX6_copy) := goodIn_app (goodIn_of _ (by decide +kernel)) ggX6_remembersRow_X6_copy
theorem dX6_remembersRow_0 : decode cX6_remembersRow 0 = .ok (.aload_n 0, 1) := by decide +kernel
theorem dX6_remembersRow_1 : decode cX6_remembersRow 1 = .ok (.getfield 49, 3) := by decide +kernel
theorem dX6_remembersRow_4 : decode cX6_remembersRow 4 = .ok (.bipush 8, 2) := by decide +kernel
theorem dX6_remembersRow_6 : decode cX6_remembersRow 6 = .ok (.if_icmp .ne 44, 3) := by decide +kernel
theorem dX6_remembersRow_9 : decode cX6_remembersRow 9 = .ok (.iconst 0, 1) := by decide +kernel
theorem dX6_remembersRow_10 : decode cX6_remembersRow 10 = .ok (.istore_n 2, 1) := by decide +kernel
theorem dX6_remembersRow_11 : decode cX6_remembersRow 11 = .ok (.iload_n 2, 1) := by decide +kernel
theorem dX6_remembersRow_12 : decode cX6_remembersRow 12 = .ok (.sipush 4060, 3) := by decide +kernel
theorem dX6_remembersRow_15 : decode cX6_remembersRow 15 = .ok (.if_icmp .ge 25, 3) := by decide +kernel
theorem dX6_remembersRow_18 : decode cX6_remembersRow 18 = .ok (.aload_n 0, 1) := by decide +kernel
theorem dX6_remembersRow_19 : decode cX6_remembersRow 19 = .ok (.getfield 13, 3) := by decide +kernel
theorem dX6_remembersRow_22 : decode cX6_remembersRow 22 = .ok (.iload_n 2, 1) := by decide +kernel
theorem dX6_remembersRow_23 : decode cX6_remembersRow 23 = .ok (.aload_n 0, 1) := by decide +kernel
theorem dX6_remembersRow_24 : decode cX6_remembersRow 24 = .ok (.getfield 13, 3) := by decide +kernel
theorem dX6_remembersRow_27 : decode cX6_remembersRow 27 = .ok (.iload_n 2, 1) := by decide +kernel
theorem dX6_remembersRow_28 : decode cX6_remembersRow 28 = .ok (.sipush 580, 3) := by decide +kernel
theorem dX6_remembersRow_31 : decode cX6_remembersRow 31 = .ok (.iadd, 1) := by decide +kernel
theorem dX6_remembersRow_32 : decode cX6_remembersRow 32 = .ok (.iaload, 1) := by decide +kernel
theorem dX6_remembersRow_33 : decode cX6_remembersRow 33 = .ok (.iastore, 1) := by decide +kernel
theorem dX6_remembersRow_34 : decode cX6_remembersRow 34 = .ok (.iinc 2 1, 3) := by decide +kernel
theorem dX6_remembersRow_37 : decode cX6_remembersRow 37 = .ok (.goto (-26), 3) := by decide +kernel
theorem dX6_remembersRow_40 : decode cX6_remembersRow 40 = .ok (.aload_n 0, 1) := by decide +kernel
theorem dX6_remembersRow_41 : decode cX6_remembersRow 41 = .ok (.dup, 1) := by decide +kernel
theorem dX6_remembersRow_42 : decode cX6_remembersRow 42 = .ok (.getfield 49, 3) := by decide +kernel
theorem dX6_remembersRow_45 : decode cX6_remembersRow 45 = .ok (.iconst 1, 1) := by decide +kernel
theorem dX6_remembersRow_46 : decode cX6_remembersRow 46 = .ok (.isub, 1) := by decide +kernel
theorem dX6_remembersRow_47 : decode cX6_remembersRow 47 = .ok (.putfield 49, 3) := by decide +kernel
theorem dX6_remembersRow_50 : decode cX6_remembersRow 50 = .ok (.aload_n 1, 1) := by decide +kernel
theorem dX6_remembersRow_51 : decode cX6_remembersRow 51 = .ok (.iconst 0, 1) := by decide +kernel
theorem dX6_remembersRow_52 : decode cX6_remembersRow 52 = .ok (.aload_n 0, 1) := by decide +kernel
theorem dX6_remembersRow_53 : decode cX6_remembersRow 53 = .ok (.getfield 13, 3) := by decide +kernel
theorem dX6_remembersRow_56 : decode cX6_remembersRow 56 = .ok (.aload_n 0, 1) := by decide +kernel
theorem dX6_remembersRow_57 : decode cX6_remembersRow 57 = .ok (.getfield 49, 3) := by decide +kernel
theorem dX6_remembersRow_60 : decode cX6_remembersRow 60 = .ok (.sipush 580, 3) := by decide +kernel
theorem dX6_remembersRow_63 : decode cX6_remembersRow 63 = .ok (.imul, 1) := by decide +kernel
theorem dX6_remembersRow_64 : decode cX6_remembersRow 64 = .ok (.invokestatic 52, 3) := by decide +kernel
theorem dX6_remembersRow_67 : decode cX6_remembersRow 67 = .ok (.aload_n 0, 1) := by decide +kernel
theorem dX6_remembersRow_68 : decode cX6_remembersRow 68 = .ok (.dup, 1) := by decide +kernel
theorem dX6_remembersRow_69 : decode cX6_remembersRow 69 = .ok (.getfield 49, 3) := by decide +kernel
theorem dX6_remembersRow_72 : decode cX6_remembersRow 72 = .ok (.iconst 1, 1) := by decide +kernel
theorem dX6_remembersRow_73 : decode cX6_remembersRow 73 = .ok (.iadd, 1) := by decide +kernel
theorem dX6_remembersRow_74 : decode cX6_remembersRow 74 = .ok (.putfield 49, 3) := by decide +kernel
theorem dX6_remembersRow_77 : decode cX6_remembersRow 77 = .ok (.return_, 1) := by decide +kernel
set_option maxRecDepth 20000 in
theorem ggX6_remembers_X6_remembersRow : GoodIn wsX6_remembers wsX6_remembersRow := goodIn_ca (goodIn_r _ [7, 8, 9, 10, 11, 6, 12, 13, 14, 15, 16, 17, 18, 19, 20, 21, 22, 23, 24, 25, 26, 27, 28, 29, 30, 31, 32, 33, 34, 35, 36, 37, 38, 39] (by decide +kernel) (by decide +kernel)) (goodIn_sub (fun _ h => List.mem_cons_of_mem _ (List.mem_append_right _ h)) (by decide +kernel))
set_option maxRecDepth 20000 in
theorem gX6_remembers_X6_remembersRow : GoodIn wsX6_remembers (wsV RX6 60 RX6 yX6_remembersRow wsX6_remembersRow) := goodIn_app (goodIn_of _ (by decide +kernel)) ggX6_remembers_X6_remembersRow
theorem dX6_remembers_0 : decode cX6_remembers 0 = .ok (.aload_n 0, 1) := by decide +kernel
theorem dX6_remembers_1 : decode cX6_remembers 1 = .ok (.getfield 56, 3) := by decide +kernel
theorem dX6_remembers_4 : decode cX6_remembers 4 = .ok (.ifCond .ne 11, 3) := by decide +kernel
theorem dX6_remembers_7 : decode cX6_remembers 7 = .ok (.aload_n 0, 1) := by decide +kernel
theorem dX6_remembers_8 : decode cX6_remembers 8 = .ok (.aload_n 0, 1) := by decide +kernel
theorem dX6_remembers_9 : decode cX6_remembers 9 = .ok (.getfield 9, 3) := by decide +kernel
theorem dX6_remembers_12 : decode cX6_remembers 12 = .ok (.invokevirtual 60, 3) := by decide +kernel
theorem dX6_remembers_15 : decode cX6_remembers 15 = .ok (.return_, 1) := by decide +kernel
theorem dX6_hallAt_0 : decode cX6_hallAt 0 = .ok (.aload_n 0, 1) := by decide +kernel
theorem dX6_hallAt_1 : decode cX6_hallAt 1 = .ok (.getfield 9, 3) := by decide +kernel
theorem dX6_hallAt_4 : decode cX6_hallAt 4 = .ok (.bipush 30, 2) := by decide +kernel
theorem dX6_hallAt_6 : decode cX6_hallAt 6 = .ok (.iconst 4, 1) := by decide +kernel
theorem dX6_hallAt_7 : decode cX6_hallAt 7 = .ok (.iload_n 1, 1) := by decide +kernel
theorem dX6_hallAt_8 : decode cX6_hallAt 8 = .ok (.imul, 1) := by decide +kernel
theorem dX6_hallAt_9 : decode cX6_hallAt 9 = .ok (.iadd, 1) := by decide +kernel
theorem dX6_hallAt_10 : decode cX6_hallAt 10 = .ok (.iload_n 2, 1) := by decide +kernel
theorem dX6_hallAt_11 : decode cX6_hallAt 11 = .ok (.iadd, 1) := by decide +kernel
theorem dX6_hallAt_12 : decode cX6_hallAt 12 = .ok (.iaload, 1) := by decide +kernel
theorem dX6_hallAt_13 : decode cX6_hallAt 13 = .ok (.ireturn, 1) := by decide +kernel
theorem dX6_filmAt_0 : decode cX6_filmAt 0 = .ok (.aload_n 0, 1) := by decide +kernel
theorem dX6_filmAt_1 : decode cX6_filmAt 1 = .ok (.getfield 9, 3) := by decide +kernel
theorem dX6_filmAt_4 : decode cX6_filmAt 4 = .ok (.bipush 54, 2) := by decide +kernel
theorem dX6_filmAt_6 : decode cX6_filmAt 6 = .ok (.bipush 8, 2) := by decide +kernel
theorem dX6_filmAt_8 : decode cX6_filmAt 8 = .ok (.iload_n 1, 1) := by decide +kernel
theorem dX6_filmAt_9 : decode cX6_filmAt 9 = .ok (.imul, 1) := by decide +kernel
theorem dX6_filmAt_10 : decode cX6_filmAt 10 = .ok (.iadd, 1) := by decide +kernel
theorem dX6_filmAt_11 : decode cX6_filmAt 11 = .ok (.iload_n 2, 1) := by decide +kernel
theorem dX6_filmAt_12 : decode cX6_filmAt 12 = .ok (.iadd, 1) := by decide +kernel
theorem dX6_filmAt_13 : decode cX6_filmAt 13 = .ok (.iaload, 1) := by decide +kernel
theorem dX6_filmAt_14 : decode cX6_filmAt 14 = .ok (.ireturn, 1) := by decide +kernel
theorem dX6_trailerAt_0 : decode cX6_trailerAt 0 = .ok (.aload_n 0, 1) := by decide +kernel
theorem dX6_trailerAt_1 : decode cX6_trailerAt 1 = .ok (.getfield 9, 3) := by decide +kernel
theorem dX6_trailerAt_4 : decode cX6_trailerAt 4 = .ok (.bipush 118, 2) := by decide +kernel
theorem dX6_trailerAt_6 : decode cX6_trailerAt 6 = .ok (.iconst 4, 1) := by decide +kernel
theorem dX6_trailerAt_7 : decode cX6_trailerAt 7 = .ok (.iload_n 1, 1) := by decide +kernel
theorem dX6_trailerAt_8 : decode cX6_trailerAt 8 = .ok (.imul, 1) := by decide +kernel
theorem dX6_trailerAt_9 : decode cX6_trailerAt 9 = .ok (.iadd, 1) := by decide +kernel
theorem dX6_trailerAt_10 : decode cX6_trailerAt 10 = .ok (.iload_n 2, 1) := by decide +kernel
theorem dX6_trailerAt_11 : decode cX6_trailerAt 11 = .ok (.iadd, 1) := by decide +kernel
theorem dX6_trailerAt_12 : decode cX6_trailerAt 12 = .ok (.iaload, 1) := by decide +kernel
theorem dX6_trailerAt_13 : decode cX6_trailerAt 13 = .ok (.ireturn, 1) := by decide +kernel
theorem dX6_showAt_0 : decode cX6_showAt 0 = .ok (.aload_n 0, 1) := by decide +kernel
theorem dX6_showAt_1 : decode cX6_showAt 1 = .ok (.getfield 9, 3) := by decide +kernel
theorem dX6_showAt_4 : decode cX6_showAt 4 = .ok (.sipush 158, 3) := by decide +kernel
theorem dX6_showAt_7 : decode cX6_showAt 7 = .ok (.bipush 9, 2) := by decide +kernel
theorem dX6_showAt_9 : decode cX6_showAt 9 = .ok (.iload_n 1, 1) := by decide +kernel
theorem dX6_showAt_10 : decode cX6_showAt 10 = .ok (.imul, 1) := by decide +kernel
theorem dX6_showAt_11 : decode cX6_showAt 11 = .ok (.iadd, 1) := by decide +kernel
theorem dX6_showAt_12 : decode cX6_showAt 12 = .ok (.iload_n 2, 1) := by decide +kernel
theorem dX6_showAt_13 : decode cX6_showAt 13 = .ok (.iadd, 1) := by decide +kernel
theorem dX6_showAt_14 : decode cX6_showAt 14 = .ok (.iaload, 1) := by decide +kernel
theorem dX6_showAt_15 : decode cX6_showAt 15 = .ok (.ireturn, 1) := by decide +kernel
set_option maxRecDepth 20000 in
theorem ggX6_isHall_X6_in : GoodIn wsX6_isHall wsX6_in := goodIn_r _ [5] (by decide +kernel) (by decide +kernel)
set_option maxRecDepth 20000 in
theorem gX6_isHall_X6_in : GoodIn wsX6_isHall (va_wsS RX6 64 yX6_in wsX6_in) := goodIn_app (goodIn_of _ (by decide +kernel)) ggX6_isHall_X6_in
theorem dX6_isHall_0 : decode cX6_isHall 0 = .ok (.iload_n 1, 1) := by decide +kernel
theorem dX6_isHall_1 : decode cX6_isHall 1 = .ok (.iconst 0, 1) := by decide +kernel
theorem dX6_isHall_2 : decode cX6_isHall 2 = .ok (.aload_n 0, 1) := by decide +kernel
theorem dX6_isHall_3 : decode cX6_isHall 3 = .ok (.getfield 9, 3) := by decide +kernel
theorem dX6_isHall_6 : decode cX6_isHall 6 = .ok (.iconst 1, 1) := by decide +kernel
theorem dX6_isHall_7 : decode cX6_isHall 7 = .ok (.iaload, 1) := by decide +kernel
theorem dX6_isHall_8 : decode cX6_isHall 8 = .ok (.iconst 1, 1) := by decide +kernel
theorem dX6_isHall_9 : decode cX6_isHall 9 = .ok (.isub, 1) := by decide +kernel
theorem dX6_isHall_10 : decode cX6_isHall 10 = .ok (.invokestatic 64, 3) := by decide +kernel
theorem dX6_isHall_13 : decode cX6_isHall 13 = .ok (.ireturn, 1) := by decide +kernel
set_option maxRecDepth 20000 in
theorem ggX6_isFilm_X6_in : GoodIn wsX6_isFilm wsX6_in := goodIn_r _ [5] (by decide +kernel) (by decide +kernel)
set_option maxRecDepth 20000 in
theorem gX6_isFilm_X6_in : GoodIn wsX6_isFilm (va_wsS RX6 64 yX6_in wsX6_in) := goodIn_app (goodIn_of _ (by decide +kernel)) ggX6_isFilm_X6_in
theorem dX6_isFilm_0 : decode cX6_isFilm 0 = .ok (.iload_n 1, 1) := by decide +kernel
theorem dX6_isFilm_1 : decode cX6_isFilm 1 = .ok (.iconst 0, 1) := by decide +kernel
theorem dX6_isFilm_2 : decode cX6_isFilm 2 = .ok (.aload_n 0, 1) := by decide +kernel
theorem dX6_isFilm_3 : decode cX6_isFilm 3 = .ok (.getfield 9, 3) := by decide +kernel
theorem dX6_isFilm_6 : decode cX6_isFilm 6 = .ok (.iconst 2, 1) := by decide +kernel
theorem dX6_isFilm_7 : decode cX6_isFilm 7 = .ok (.iaload, 1) := by decide +kernel
theorem dX6_isFilm_8 : decode cX6_isFilm 8 = .ok (.iconst 1, 1) := by decide +kernel
theorem dX6_isFilm_9 : decode cX6_isFilm 9 = .ok (.isub, 1) := by decide +kernel
theorem dX6_isFilm_10 : decode cX6_isFilm 10 = .ok (.invokestatic 64, 3) := by decide +kernel
theorem dX6_isFilm_13 : decode cX6_isFilm 13 = .ok (.ireturn, 1) := by decide +kernel
set_option maxRecDepth 20000 in
theorem ggX6_isShow_X6_in : GoodIn wsX6_isShow wsX6_in := goodIn_r _ [5] (by decide +kernel) (by decide +kernel)
set_option maxRecDepth 20000 in
theorem gX6_isShow_X6_in : GoodIn wsX6_isShow (va_wsS RX6 64 yX6_in wsX6_in) := goodIn_app (goodIn_of _ (by decide +kernel)) ggX6_isShow_X6_in
theorem dX6_isShow_0 : decode cX6_isShow 0 = .ok (.iload_n 1, 1) := by decide +kernel
theorem dX6_isShow_1 : decode cX6_isShow 1 = .ok (.iconst 0, 1) := by decide +kernel
theorem dX6_isShow_2 : decode cX6_isShow 2 = .ok (.aload_n 0, 1) := by decide +kernel
theorem dX6_isShow_3 : decode cX6_isShow 3 = .ok (.getfield 9, 3) := by decide +kernel
theorem dX6_isShow_6 : decode cX6_isShow 6 = .ok (.iconst 4, 1) := by decide +kernel
theorem dX6_isShow_7 : decode cX6_isShow 7 = .ok (.iaload, 1) := by decide +kernel
theorem dX6_isShow_8 : decode cX6_isShow 8 = .ok (.iconst 1, 1) := by decide +kernel
theorem dX6_isShow_9 : decode cX6_isShow 9 = .ok (.isub, 1) := by decide +kernel
theorem dX6_isShow_10 : decode cX6_isShow 10 = .ok (.invokestatic 64, 3) := by decide +kernel
theorem dX6_isShow_13 : decode cX6_isShow 13 = .ok (.ireturn, 1) := by decide +kernel
set_option maxRecDepth 20000 in
theorem ggX6_isDay_X6_in : GoodIn wsX6_isDay wsX6_in := goodIn_r _ [4] (by decide +kernel) (by decide +kernel)
set_option maxRecDepth 20000 in
theorem gX6_isDay_X6_in : GoodIn wsX6_isDay (va_wsS RX6 64 yX6_in wsX6_in) := goodIn_app (goodIn_of _ (by decide +kernel)) ggX6_isDay_X6_in
theorem dX6_isDay_0 : decode cX6_isDay 0 = .ok (.iload_n 0, 1) := by decide +kernel
theorem dX6_isDay_1 : decode cX6_isDay 1 = .ok (.iconst 0, 1) := by decide +kernel
theorem dX6_isDay_2 : decode cX6_isDay 2 = .ok (.bipush 59, 2) := by decide +kernel
theorem dX6_isDay_4 : decode cX6_isDay 4 = .ok (.invokestatic 64, 3) := by decide +kernel
theorem dX6_isDay_7 : decode cX6_isDay 7 = .ok (.ireturn, 1) := by decide +kernel
set_option maxRecDepth 20000 in
theorem ggX6_addHall_X6_in : GoodIn wsX6_addHall wsX6_in := goodIn_r _ [5] (by decide +kernel) (by decide +kernel)
set_option maxRecDepth 20000 in
theorem gX6_addHall_X6_in : GoodIn wsX6_addHall (va_wsS RX6 64 yX6_in wsX6_in) := goodIn_app (goodIn_of _ (by decide +kernel)) ggX6_addHall_X6_in
set_option maxRecDepth 20000 in
theorem ggX6_addHall_X6_fails : GoodIn wsX6_addHall wsX6_fails := goodIn_r _ [9, 10, 29, 30, 31, 32, 33, 34, 35, 36, 37, 38, 39, 40, 41, 42, 43, 44, 45, 46, 47, 48, 49, 50, 51, 52, 53, 54, 55] (by decide +kernel) (by decide +kernel)
set_option maxRecDepth 20000 in
theorem gX6_addHall_X6_fails : GoodIn wsX6_addHall (wsV RX6 45 RX6 yX6_fails wsX6_fails) := goodIn_app (goodIn_of _ (by decide +kernel)) ggX6_addHall_X6_fails
set_option maxRecDepth 20000 in
theorem ggX6_addHall_X6_remembers : GoodIn wsX6_addHall wsX6_remembers := goodIn_ca (goodIn_r _ [14, 15, 1, 16, 17, 18, 4, 19, 20, 21, 22, 23, 24, 29, 30, 31, 32, 33, 34, 35, 36, 37, 38, 39, 40, 41, 42, 43, 44, 45, 46, 47, 48, 49, 50, 51, 52, 53, 54, 55] (by decide +kernel) (by decide +kernel)) (goodIn_sub (fun _ h => List.mem_cons_of_mem _ (List.mem_append_right _ h)) (by decide +kernel))
set_option maxRecDepth 20000 in
theorem gX6_addHall_X6_remembers : GoodIn wsX6_addHall (wsV RX6 68 RX6 yX6_remembers wsX6_remembers) := goodIn_app (goodIn_of _ (by decide +kernel)) ggX6_addHall_X6_remembers
set_option maxRecDepth 20000 in
theorem ggX6_addHall_X6_done : GoodIn wsX6_addHall wsX6_done := goodIn_r _ [28, 10, 29, 30, 31, 32, 33, 34, 35, 36, 37, 38, 39, 40, 41, 42, 43, 44, 45, 46, 47, 48, 49, 50, 51, 52, 53, 54, 55] (by decide +kernel) (by decide +kernel)
set_option maxRecDepth 20000 in
theorem gX6_addHall_X6_done : GoodIn wsX6_addHall (wsV RX6 71 RX6 yX6_done wsX6_done) := goodIn_app (goodIn_of _ (by decide +kernel)) ggX6_addHall_X6_done
theorem dX6_addHall_0 : decode cX6_addHall 0 = .ok (.iload_n 1, 1) := by decide +kernel
theorem dX6_addHall_1 : decode cX6_addHall 1 = .ok (.iconst 1, 1) := by decide +kernel
theorem dX6_addHall_2 : decode cX6_addHall 2 = .ok (.sipush 400, 3) := by decide +kernel
theorem dX6_addHall_5 : decode cX6_addHall 5 = .ok (.invokestatic 64, 3) := by decide +kernel
theorem dX6_addHall_8 : decode cX6_addHall 8 = .ok (.ifCond .eq 22, 3) := by decide +kernel
theorem dX6_addHall_11 : decode cX6_addHall 11 = .ok (.iload_n 2, 1) := by decide +kernel
theorem dX6_addHall_12 : decode cX6_addHall 12 = .ok (.iconst 0, 1) := by decide +kernel
theorem dX6_addHall_13 : decode cX6_addHall 13 = .ok (.bipush 40, 2) := by decide +kernel
theorem dX6_addHall_15 : decode cX6_addHall 15 = .ok (.invokestatic 64, 3) := by decide +kernel
theorem dX6_addHall_18 : decode cX6_addHall 18 = .ok (.ifCond .eq 12, 3) := by decide +kernel
theorem dX6_addHall_21 : decode cX6_addHall 21 = .ok (.iload_n 3, 1) := by decide +kernel
theorem dX6_addHall_22 : decode cX6_addHall 22 = .ok (.iconst 0, 1) := by decide +kernel
theorem dX6_addHall_23 : decode cX6_addHall 23 = .ok (.iconst 2, 1) := by decide +kernel
theorem dX6_addHall_24 : decode cX6_addHall 24 = .ok (.invokestatic 64, 3) := by decide +kernel
theorem dX6_addHall_27 : decode cX6_addHall 27 = .ok (.ifCond .ne 9, 3) := by decide +kernel
theorem dX6_addHall_30 : decode cX6_addHall 30 = .ok (.aload_n 0, 1) := by decide +kernel
theorem dX6_addHall_31 : decode cX6_addHall 31 = .ok (.iconst 1, 1) := by decide +kernel
theorem dX6_addHall_32 : decode cX6_addHall 32 = .ok (.invokevirtual 45, 3) := by decide +kernel
theorem dX6_addHall_35 : decode cX6_addHall 35 = .ok (.ireturn, 1) := by decide +kernel
theorem dX6_addHall_36 : decode cX6_addHall 36 = .ok (.aload_n 0, 1) := by decide +kernel
theorem dX6_addHall_37 : decode cX6_addHall 37 = .ok (.getfield 9, 3) := by decide +kernel
theorem dX6_addHall_40 : decode cX6_addHall 40 = .ok (.iconst 1, 1) := by decide +kernel
theorem dX6_addHall_41 : decode cX6_addHall 41 = .ok (.iaload, 1) := by decide +kernel
theorem dX6_addHall_42 : decode cX6_addHall 42 = .ok (.bipush 6, 2) := by decide +kernel
theorem dX6_addHall_44 : decode cX6_addHall 44 = .ok (.if_icmp .ne 9, 3) := by decide +kernel
theorem dX6_addHall_47 : decode cX6_addHall 47 = .ok (.aload_n 0, 1) := by decide +kernel
theorem dX6_addHall_48 : decode cX6_addHall 48 = .ok (.iconst 2, 1) := by decide +kernel
theorem dX6_addHall_49 : decode cX6_addHall 49 = .ok (.invokevirtual 45, 3) := by decide +kernel
theorem dX6_addHall_52 : decode cX6_addHall 52 = .ok (.ireturn, 1) := by decide +kernel
theorem dX6_addHall_53 : decode cX6_addHall 53 = .ok (.aload_n 0, 1) := by decide +kernel
theorem dX6_addHall_54 : decode cX6_addHall 54 = .ok (.invokevirtual 68, 3) := by decide +kernel
theorem dX6_addHall_57 : decode cX6_addHall 57 = .ok (.bipush 30, 2) := by decide +kernel
theorem dX6_addHall_59 : decode cX6_addHall 59 = .ok (.iconst 4, 1) := by decide +kernel
theorem dX6_addHall_60 : decode cX6_addHall 60 = .ok (.aload_n 0, 1) := by decide +kernel
theorem dX6_addHall_61 : decode cX6_addHall 61 = .ok (.getfield 9, 3) := by decide +kernel
theorem dX6_addHall_64 : decode cX6_addHall 64 = .ok (.iconst 1, 1) := by decide +kernel
theorem dX6_addHall_65 : decode cX6_addHall 65 = .ok (.iaload, 1) := by decide +kernel
theorem dX6_addHall_66 : decode cX6_addHall 66 = .ok (.imul, 1) := by decide +kernel
theorem dX6_addHall_67 : decode cX6_addHall 67 = .ok (.iadd, 1) := by decide +kernel
theorem dX6_addHall_68 : decode cX6_addHall 68 = .ok (.istore 4, 2) := by decide +kernel
theorem dX6_addHall_70 : decode cX6_addHall 70 = .ok (.aload_n 0, 1) := by decide +kernel
theorem dX6_addHall_71 : decode cX6_addHall 71 = .ok (.getfield 9, 3) := by decide +kernel
theorem dX6_addHall_74 : decode cX6_addHall 74 = .ok (.iload 4, 2) := by decide +kernel
theorem dX6_addHall_76 : decode cX6_addHall 76 = .ok (.iload_n 1, 1) := by decide +kernel
theorem dX6_addHall_77 : decode cX6_addHall 77 = .ok (.iastore, 1) := by decide +kernel
theorem dX6_addHall_78 : decode cX6_addHall 78 = .ok (.aload_n 0, 1) := by decide +kernel
theorem dX6_addHall_79 : decode cX6_addHall 79 = .ok (.getfield 9, 3) := by decide +kernel
theorem dX6_addHall_82 : decode cX6_addHall 82 = .ok (.iload 4, 2) := by decide +kernel
theorem dX6_addHall_84 : decode cX6_addHall 84 = .ok (.iconst 1, 1) := by decide +kernel
theorem dX6_addHall_85 : decode cX6_addHall 85 = .ok (.iadd, 1) := by decide +kernel
theorem dX6_addHall_86 : decode cX6_addHall 86 = .ok (.iload_n 2, 1) := by decide +kernel
theorem dX6_addHall_87 : decode cX6_addHall 87 = .ok (.iastore, 1) := by decide +kernel
theorem dX6_addHall_88 : decode cX6_addHall 88 = .ok (.aload_n 0, 1) := by decide +kernel
theorem dX6_addHall_89 : decode cX6_addHall 89 = .ok (.getfield 9, 3) := by decide +kernel
theorem dX6_addHall_92 : decode cX6_addHall 92 = .ok (.iload 4, 2) := by decide +kernel
theorem dX6_addHall_94 : decode cX6_addHall 94 = .ok (.iconst 2, 1) := by decide +kernel
theorem dX6_addHall_95 : decode cX6_addHall 95 = .ok (.iadd, 1) := by decide +kernel
theorem dX6_addHall_96 : decode cX6_addHall 96 = .ok (.iload_n 3, 1) := by decide +kernel
theorem dX6_addHall_97 : decode cX6_addHall 97 = .ok (.iastore, 1) := by decide +kernel
theorem dX6_addHall_98 : decode cX6_addHall 98 = .ok (.aload_n 0, 1) := by decide +kernel
theorem dX6_addHall_99 : decode cX6_addHall 99 = .ok (.getfield 9, 3) := by decide +kernel
theorem dX6_addHall_102 : decode cX6_addHall 102 = .ok (.iload 4, 2) := by decide +kernel
theorem dX6_addHall_104 : decode cX6_addHall 104 = .ok (.iconst 3, 1) := by decide +kernel
theorem dX6_addHall_105 : decode cX6_addHall 105 = .ok (.iadd, 1) := by decide +kernel
theorem dX6_addHall_106 : decode cX6_addHall 106 = .ok (.iconst (-1), 1) := by decide +kernel
theorem dX6_addHall_107 : decode cX6_addHall 107 = .ok (.iastore, 1) := by decide +kernel
theorem dX6_addHall_108 : decode cX6_addHall 108 = .ok (.aload_n 0, 1) := by decide +kernel
theorem dX6_addHall_109 : decode cX6_addHall 109 = .ok (.getfield 9, 3) := by decide +kernel
theorem dX6_addHall_112 : decode cX6_addHall 112 = .ok (.iconst 1, 1) := by decide +kernel
theorem dX6_addHall_113 : decode cX6_addHall 113 = .ok (.dup2, 1) := by decide +kernel
theorem dX6_addHall_114 : decode cX6_addHall 114 = .ok (.iaload, 1) := by decide +kernel
theorem dX6_addHall_115 : decode cX6_addHall 115 = .ok (.iconst 1, 1) := by decide +kernel
theorem dX6_addHall_116 : decode cX6_addHall 116 = .ok (.iadd, 1) := by decide +kernel
theorem dX6_addHall_117 : decode cX6_addHall 117 = .ok (.iastore, 1) := by decide +kernel
theorem dX6_addHall_118 : decode cX6_addHall 118 = .ok (.aload_n 0, 1) := by decide +kernel
theorem dX6_addHall_119 : decode cX6_addHall 119 = .ok (.aload_n 0, 1) := by decide +kernel
theorem dX6_addHall_120 : decode cX6_addHall 120 = .ok (.getfield 9, 3) := by decide +kernel
theorem dX6_addHall_123 : decode cX6_addHall 123 = .ok (.iconst 1, 1) := by decide +kernel
theorem dX6_addHall_124 : decode cX6_addHall 124 = .ok (.iaload, 1) := by decide +kernel
theorem dX6_addHall_125 : decode cX6_addHall 125 = .ok (.iconst 1, 1) := by decide +kernel
theorem dX6_addHall_126 : decode cX6_addHall 126 = .ok (.isub, 1) := by decide +kernel
theorem dX6_addHall_127 : decode cX6_addHall 127 = .ok (.invokevirtual 71, 3) := by decide +kernel
theorem dX6_addHall_130 : decode cX6_addHall 130 = .ok (.ireturn, 1) := by decide +kernel
set_option maxRecDepth 20000 in
theorem ggX6_addFilm_X6_in : GoodIn wsX6_addFilm wsX6_in := goodIn_r _ [5] (by decide +kernel) (by decide +kernel)
set_option maxRecDepth 20000 in
theorem gX6_addFilm_X6_in : GoodIn wsX6_addFilm (va_wsS RX6 64 yX6_in wsX6_in) := goodIn_app (goodIn_of _ (by decide +kernel)) ggX6_addFilm_X6_in
set_option maxRecDepth 20000 in
theorem ggX6_addFilm_X6_isDay : GoodIn wsX6_addFilm wsX6_isDay := goodIn_r _ [8, 2, 3, 4, 5] (by decide +kernel) (by decide +kernel)
set_option maxRecDepth 20000 in
theorem gX6_addFilm_X6_isDay : GoodIn wsX6_addFilm (va_wsS RX6 74 yX6_isDay wsX6_isDay) := goodIn_app (goodIn_of _ (by decide +kernel)) ggX6_addFilm_X6_isDay
set_option maxRecDepth 20000 in
theorem ggX6_addFilm_X6_fails : GoodIn wsX6_addFilm wsX6_fails := goodIn_r _ [12, 13, 32, 33, 34, 35, 36, 37, 38, 39, 40, 41, 42, 43, 44, 45, 46, 47, 48, 49, 50, 51, 52, 53, 54, 55, 56, 57, 58] (by decide +kernel) (by decide +kernel)
set_option maxRecDepth 20000 in
theorem gX6_addFilm_X6_fails : GoodIn wsX6_addFilm (wsV RX6 45 RX6 yX6_fails wsX6_fails) := goodIn_app (goodIn_of _ (by decide +kernel)) ggX6_addFilm_X6_fails
set_option maxRecDepth 20000 in
theorem ggX6_addFilm_X6_remembers : GoodIn wsX6_addFilm wsX6_remembers := goodIn_ca (goodIn_r _ [17, 18, 1, 19, 20, 21, 4, 22, 23, 24, 25, 26, 27, 32, 33, 34, 35, 36, 37, 38, 39, 40, 41, 42, 43, 44, 45, 46, 47, 48, 49, 50, 51, 52, 53, 54, 55, 56, 57, 58] (by decide +kernel) (by decide +kernel)) (goodIn_sub (fun _ h => List.mem_cons_of_mem _ (List.mem_append_right _ h)) (by decide +kernel))
set_option maxRecDepth 20000 in
theorem gX6_addFilm_X6_remembers : GoodIn wsX6_addFilm (wsV RX6 68 RX6 yX6_remembers wsX6_remembers) := goodIn_app (goodIn_of _ (by decide +kernel)) ggX6_addFilm_X6_remembers
set_option maxRecDepth 20000 in
theorem ggX6_addFilm_X6_done : GoodIn wsX6_addFilm wsX6_done := goodIn_r _ [31, 13, 32, 33, 34, 35, 36, 37, 38, 39, 40, 41, 42, 43, 44, 45, 46, 47, 48, 49, 50, 51, 52, 53, 54, 55, 56, 57, 58] (by decide +kernel) (by decide +kernel)
set_option maxRecDepth 20000 in
theorem gX6_addFilm_X6_done : GoodIn wsX6_addFilm (wsV RX6 71 RX6 yX6_done wsX6_done) := goodIn_app (goodIn_of _ (by decide +kernel)) ggX6_addFilm_X6_done
theorem dX6_addFilm_0 : decode cX6_addFilm 0 = .ok (.iload_n 1, 1) := by decide +kernel
theorem dX6_addFilm_1 : decode cX6_addFilm 1 = .ok (.bipush 30, 2) := by decide +kernel
theorem dX6_addFilm_3 : decode cX6_addFilm 3 = .ok (.sipush 240, 3) := by decide +kernel
theorem dX6_addFilm_6 : decode cX6_addFilm 6 = .ok (.invokestatic 64, 3) := by decide +kernel
theorem dX6_addFilm_9 : decode cX6_addFilm 9 = .ok (.ifCond .eq 40, 3) := by decide +kernel
theorem dX6_addFilm_12 : decode cX6_addFilm 12 = .ok (.iload_n 2, 1) := by decide +kernel
theorem dX6_addFilm_13 : decode cX6_addFilm 13 = .ok (.iconst 0, 1) := by decide +kernel
theorem dX6_addFilm_14 : decode cX6_addFilm 14 = .ok (.iconst 3, 1) := by decide +kernel
theorem dX6_addFilm_15 : decode cX6_addFilm 15 = .ok (.invokestatic 64, 3) := by decide +kernel
theorem dX6_addFilm_18 : decode cX6_addFilm 18 = .ok (.ifCond .eq 31, 3) := by decide +kernel
theorem dX6_addFilm_21 : decode cX6_addFilm 21 = .ok (.iload_n 3, 1) := by decide +kernel
theorem dX6_addFilm_22 : decode cX6_addFilm 22 = .ok (.iconst 1, 1) := by decide +kernel
theorem dX6_addFilm_23 : decode cX6_addFilm 23 = .ok (.bipush 63, 2) := by decide +kernel
theorem dX6_addFilm_25 : decode cX6_addFilm 25 = .ok (.invokestatic 64, 3) := by decide +kernel
theorem dX6_addFilm_28 : decode cX6_addFilm 28 = .ok (.ifCond .eq 21, 3) := by decide +kernel
theorem dX6_addFilm_31 : decode cX6_addFilm 31 = .ok (.iload 4, 2) := by decide +kernel
theorem dX6_addFilm_33 : decode cX6_addFilm 33 = .ok (.iconst 1, 1) := by decide +kernel
theorem dX6_addFilm_34 : decode cX6_addFilm 34 = .ok (.iconst 3, 1) := by decide +kernel
theorem dX6_addFilm_35 : decode cX6_addFilm 35 = .ok (.invokestatic 64, 3) := by decide +kernel
theorem dX6_addFilm_38 : decode cX6_addFilm 38 = .ok (.ifCond .eq 11, 3) := by decide +kernel
theorem dX6_addFilm_41 : decode cX6_addFilm 41 = .ok (.iload 5, 2) := by decide +kernel
theorem dX6_addFilm_43 : decode cX6_addFilm 43 = .ok (.invokestatic 74, 3) := by decide +kernel
theorem dX6_addFilm_46 : decode cX6_addFilm 46 = .ok (.ifCond .ne 9, 3) := by decide +kernel
theorem dX6_addFilm_49 : decode cX6_addFilm 49 = .ok (.aload_n 0, 1) := by decide +kernel
theorem dX6_addFilm_50 : decode cX6_addFilm 50 = .ok (.iconst 1, 1) := by decide +kernel
theorem dX6_addFilm_51 : decode cX6_addFilm 51 = .ok (.invokevirtual 45, 3) := by decide +kernel
theorem dX6_addFilm_54 : decode cX6_addFilm 54 = .ok (.ireturn, 1) := by decide +kernel
theorem dX6_addFilm_55 : decode cX6_addFilm 55 = .ok (.aload_n 0, 1) := by decide +kernel
theorem dX6_addFilm_56 : decode cX6_addFilm 56 = .ok (.getfield 9, 3) := by decide +kernel
theorem dX6_addFilm_59 : decode cX6_addFilm 59 = .ok (.iconst 2, 1) := by decide +kernel
theorem dX6_addFilm_60 : decode cX6_addFilm 60 = .ok (.iaload, 1) := by decide +kernel
theorem dX6_addFilm_61 : decode cX6_addFilm 61 = .ok (.bipush 8, 2) := by decide +kernel
theorem dX6_addFilm_63 : decode cX6_addFilm 63 = .ok (.if_icmp .ne 9, 3) := by decide +kernel
theorem dX6_addFilm_66 : decode cX6_addFilm 66 = .ok (.aload_n 0, 1) := by decide +kernel
theorem dX6_addFilm_67 : decode cX6_addFilm 67 = .ok (.iconst 2, 1) := by decide +kernel
theorem dX6_addFilm_68 : decode cX6_addFilm 68 = .ok (.invokevirtual 45, 3) := by decide +kernel
theorem dX6_addFilm_71 : decode cX6_addFilm 71 = .ok (.ireturn, 1) := by decide +kernel
theorem dX6_addFilm_72 : decode cX6_addFilm 72 = .ok (.aload_n 0, 1) := by decide +kernel
theorem dX6_addFilm_73 : decode cX6_addFilm 73 = .ok (.invokevirtual 68, 3) := by decide +kernel
theorem dX6_addFilm_76 : decode cX6_addFilm 76 = .ok (.bipush 54, 2) := by decide +kernel
theorem dX6_addFilm_78 : decode cX6_addFilm 78 = .ok (.bipush 8, 2) := by decide +kernel
theorem dX6_addFilm_80 : decode cX6_addFilm 80 = .ok (.aload_n 0, 1) := by decide +kernel
theorem dX6_addFilm_81 : decode cX6_addFilm 81 = .ok (.getfield 9, 3) := by decide +kernel
theorem dX6_addFilm_84 : decode cX6_addFilm 84 = .ok (.iconst 2, 1) := by decide +kernel
theorem dX6_addFilm_85 : decode cX6_addFilm 85 = .ok (.iaload, 1) := by decide +kernel
theorem dX6_addFilm_86 : decode cX6_addFilm 86 = .ok (.imul, 1) := by decide +kernel
theorem dX6_addFilm_87 : decode cX6_addFilm 87 = .ok (.iadd, 1) := by decide +kernel
theorem dX6_addFilm_88 : decode cX6_addFilm 88 = .ok (.istore 6, 2) := by decide +kernel
theorem dX6_addFilm_90 : decode cX6_addFilm 90 = .ok (.aload_n 0, 1) := by decide +kernel
theorem dX6_addFilm_91 : decode cX6_addFilm 91 = .ok (.getfield 9, 3) := by decide +kernel
theorem dX6_addFilm_94 : decode cX6_addFilm 94 = .ok (.iload 6, 2) := by decide +kernel
theorem dX6_addFilm_96 : decode cX6_addFilm 96 = .ok (.iload_n 1, 1) := by decide +kernel
theorem dX6_addFilm_97 : decode cX6_addFilm 97 = .ok (.iastore, 1) := by decide +kernel
theorem dX6_addFilm_98 : decode cX6_addFilm 98 = .ok (.aload_n 0, 1) := by decide +kernel
theorem dX6_addFilm_99 : decode cX6_addFilm 99 = .ok (.getfield 9, 3) := by decide +kernel
theorem dX6_addFilm_102 : decode cX6_addFilm 102 = .ok (.iload 6, 2) := by decide +kernel
theorem dX6_addFilm_104 : decode cX6_addFilm 104 = .ok (.iconst 1, 1) := by decide +kernel
theorem dX6_addFilm_105 : decode cX6_addFilm 105 = .ok (.iadd, 1) := by decide +kernel
theorem dX6_addFilm_106 : decode cX6_addFilm 106 = .ok (.iload_n 2, 1) := by decide +kernel
theorem dX6_addFilm_107 : decode cX6_addFilm 107 = .ok (.iastore, 1) := by decide +kernel
theorem dX6_addFilm_108 : decode cX6_addFilm 108 = .ok (.aload_n 0, 1) := by decide +kernel
theorem dX6_addFilm_109 : decode cX6_addFilm 109 = .ok (.getfield 9, 3) := by decide +kernel
theorem dX6_addFilm_112 : decode cX6_addFilm 112 = .ok (.iload 6, 2) := by decide +kernel
theorem dX6_addFilm_114 : decode cX6_addFilm 114 = .ok (.iconst 2, 1) := by decide +kernel
theorem dX6_addFilm_115 : decode cX6_addFilm 115 = .ok (.iadd, 1) := by decide +kernel
theorem dX6_addFilm_116 : decode cX6_addFilm 116 = .ok (.iload_n 3, 1) := by decide +kernel
theorem dX6_addFilm_117 : decode cX6_addFilm 117 = .ok (.iastore, 1) := by decide +kernel
theorem dX6_addFilm_118 : decode cX6_addFilm 118 = .ok (.aload_n 0, 1) := by decide +kernel
theorem dX6_addFilm_119 : decode cX6_addFilm 119 = .ok (.getfield 9, 3) := by decide +kernel
theorem dX6_addFilm_122 : decode cX6_addFilm 122 = .ok (.iload 6, 2) := by decide +kernel
theorem dX6_addFilm_124 : decode cX6_addFilm 124 = .ok (.iconst 3, 1) := by decide +kernel
theorem dX6_addFilm_125 : decode cX6_addFilm 125 = .ok (.iadd, 1) := by decide +kernel
theorem dX6_addFilm_126 : decode cX6_addFilm 126 = .ok (.iload 4, 2) := by decide +kernel
theorem dX6_addFilm_128 : decode cX6_addFilm 128 = .ok (.iastore, 1) := by decide +kernel
theorem dX6_addFilm_129 : decode cX6_addFilm 129 = .ok (.aload_n 0, 1) := by decide +kernel
theorem dX6_addFilm_130 : decode cX6_addFilm 130 = .ok (.getfield 9, 3) := by decide +kernel
theorem dX6_addFilm_133 : decode cX6_addFilm 133 = .ok (.iload 6, 2) := by decide +kernel
theorem dX6_addFilm_135 : decode cX6_addFilm 135 = .ok (.iconst 4, 1) := by decide +kernel
theorem dX6_addFilm_136 : decode cX6_addFilm 136 = .ok (.iadd, 1) := by decide +kernel
theorem dX6_addFilm_137 : decode cX6_addFilm 137 = .ok (.iload 5, 2) := by decide +kernel
theorem dX6_addFilm_139 : decode cX6_addFilm 139 = .ok (.iastore, 1) := by decide +kernel
theorem dX6_addFilm_140 : decode cX6_addFilm 140 = .ok (.aload_n 0, 1) := by decide +kernel
theorem dX6_addFilm_141 : decode cX6_addFilm 141 = .ok (.getfield 9, 3) := by decide +kernel
theorem dX6_addFilm_144 : decode cX6_addFilm 144 = .ok (.iload 6, 2) := by decide +kernel
theorem dX6_addFilm_146 : decode cX6_addFilm 146 = .ok (.iconst 5, 1) := by decide +kernel
theorem dX6_addFilm_147 : decode cX6_addFilm 147 = .ok (.iadd, 1) := by decide +kernel
theorem dX6_addFilm_148 : decode cX6_addFilm 148 = .ok (.bipush 60, 2) := by decide +kernel
theorem dX6_addFilm_150 : decode cX6_addFilm 150 = .ok (.iastore, 1) := by decide +kernel
theorem dX6_addFilm_151 : decode cX6_addFilm 151 = .ok (.aload_n 0, 1) := by decide +kernel
theorem dX6_addFilm_152 : decode cX6_addFilm 152 = .ok (.getfield 9, 3) := by decide +kernel
theorem dX6_addFilm_155 : decode cX6_addFilm 155 = .ok (.iload 6, 2) := by decide +kernel
theorem dX6_addFilm_157 : decode cX6_addFilm 157 = .ok (.bipush 6, 2) := by decide +kernel
theorem dX6_addFilm_159 : decode cX6_addFilm 159 = .ok (.iadd, 1) := by decide +kernel
theorem dX6_addFilm_160 : decode cX6_addFilm 160 = .ok (.bipush 10, 2) := by decide +kernel
theorem dX6_addFilm_162 : decode cX6_addFilm 162 = .ok (.iastore, 1) := by decide +kernel
theorem dX6_addFilm_163 : decode cX6_addFilm 163 = .ok (.aload_n 0, 1) := by decide +kernel
theorem dX6_addFilm_164 : decode cX6_addFilm 164 = .ok (.getfield 9, 3) := by decide +kernel
theorem dX6_addFilm_167 : decode cX6_addFilm 167 = .ok (.iload 6, 2) := by decide +kernel
theorem dX6_addFilm_169 : decode cX6_addFilm 169 = .ok (.bipush 7, 2) := by decide +kernel
theorem dX6_addFilm_171 : decode cX6_addFilm 171 = .ok (.iadd, 1) := by decide +kernel
theorem dX6_addFilm_172 : decode cX6_addFilm 172 = .ok (.bipush 20, 2) := by decide +kernel
theorem dX6_addFilm_174 : decode cX6_addFilm 174 = .ok (.iastore, 1) := by decide +kernel
theorem dX6_addFilm_175 : decode cX6_addFilm 175 = .ok (.aload_n 0, 1) := by decide +kernel
theorem dX6_addFilm_176 : decode cX6_addFilm 176 = .ok (.getfield 9, 3) := by decide +kernel
theorem dX6_addFilm_179 : decode cX6_addFilm 179 = .ok (.iconst 2, 1) := by decide +kernel
theorem dX6_addFilm_180 : decode cX6_addFilm 180 = .ok (.dup2, 1) := by decide +kernel
theorem dX6_addFilm_181 : decode cX6_addFilm 181 = .ok (.iaload, 1) := by decide +kernel
theorem dX6_addFilm_182 : decode cX6_addFilm 182 = .ok (.iconst 1, 1) := by decide +kernel
theorem dX6_addFilm_183 : decode cX6_addFilm 183 = .ok (.iadd, 1) := by decide +kernel
theorem dX6_addFilm_184 : decode cX6_addFilm 184 = .ok (.iastore, 1) := by decide +kernel
theorem dX6_addFilm_185 : decode cX6_addFilm 185 = .ok (.aload_n 0, 1) := by decide +kernel
theorem dX6_addFilm_186 : decode cX6_addFilm 186 = .ok (.aload_n 0, 1) := by decide +kernel
theorem dX6_addFilm_187 : decode cX6_addFilm 187 = .ok (.getfield 9, 3) := by decide +kernel
theorem dX6_addFilm_190 : decode cX6_addFilm 190 = .ok (.iconst 2, 1) := by decide +kernel
theorem dX6_addFilm_191 : decode cX6_addFilm 191 = .ok (.iaload, 1) := by decide +kernel
theorem dX6_addFilm_192 : decode cX6_addFilm 192 = .ok (.iconst 1, 1) := by decide +kernel
theorem dX6_addFilm_193 : decode cX6_addFilm 193 = .ok (.isub, 1) := by decide +kernel
theorem dX6_addFilm_194 : decode cX6_addFilm 194 = .ok (.invokevirtual 71, 3) := by decide +kernel
theorem dX6_addFilm_197 : decode cX6_addFilm 197 = .ok (.ireturn, 1) := by decide +kernel
set_option maxRecDepth 20000 in
theorem ggX6_setShares_X6_isFilm : GoodIn wsX6_setShares wsX6_isFilm := goodIn_ca (goodIn_r _ [6, 1, 7, 8, 5, 9, 37, 38, 39, 40, 41, 42, 43, 44, 45, 46, 47, 48, 49, 50, 51, 52, 53, 54, 55, 56, 57, 58, 59, 60, 61, 62, 63] (by decide +kernel) (by decide +kernel)) (goodIn_sub (fun _ h => List.mem_cons_of_mem _ (List.mem_append_right _ h)) (by decide +kernel))
set_option maxRecDepth 20000 in
theorem gX6_setShares_X6_isFilm : GoodIn wsX6_setShares (wsV RX6 78 RX6 yX6_isFilm wsX6_isFilm) := goodIn_app (goodIn_of _ (by decide +kernel)) ggX6_setShares_X6_isFilm
set_option maxRecDepth 20000 in
theorem ggX6_setShares_X6_fails : GoodIn wsX6_setShares wsX6_fails := goodIn_r _ [13, 14, 37, 38, 39, 40, 41, 42, 43, 44, 45, 46, 47, 48, 49, 50, 51, 52, 53, 54, 55, 56, 57, 58, 59, 60, 61, 62, 63] (by decide +kernel) (by decide +kernel)
set_option maxRecDepth 20000 in
theorem gX6_setShares_X6_fails : GoodIn wsX6_setShares (wsV RX6 45 RX6 yX6_fails wsX6_fails) := goodIn_app (goodIn_of _ (by decide +kernel)) ggX6_setShares_X6_fails
set_option maxRecDepth 20000 in
theorem ggX6_setShares_X6_in : GoodIn wsX6_setShares wsX6_in := goodIn_r _ [9] (by decide +kernel) (by decide +kernel)
set_option maxRecDepth 20000 in
theorem gX6_setShares_X6_in : GoodIn wsX6_setShares (va_wsS RX6 64 yX6_in wsX6_in) := goodIn_app (goodIn_of _ (by decide +kernel)) ggX6_setShares_X6_in
set_option maxRecDepth 20000 in
theorem ggX6_setShares_X6_remembers : GoodIn wsX6_setShares wsX6_remembers := goodIn_ca (goodIn_r _ [18, 19, 1, 20, 21, 22, 5, 23, 24, 25, 26, 27, 28, 37, 38, 39, 40, 41, 42, 43, 44, 45, 46, 47, 48, 49, 50, 51, 52, 53, 54, 55, 56, 57, 58, 59, 60, 61, 62, 63] (by decide +kernel) (by decide +kernel)) (goodIn_sub (fun _ h => List.mem_cons_of_mem _ (List.mem_append_right _ h)) (by decide +kernel))
set_option maxRecDepth 20000 in
theorem gX6_setShares_X6_remembers : GoodIn wsX6_setShares (wsV RX6 68 RX6 yX6_remembers wsX6_remembers) := goodIn_app (goodIn_of _ (by decide +kernel)) ggX6_setShares_X6_remembers
set_option maxRecDepth 20000 in
theorem ggX6_setShares_X6_filmAt : GoodIn wsX6_setShares wsX6_filmAt := goodIn_ca (goodIn_r _ [32, 1, 37, 38, 39, 40, 41, 42, 43, 44, 45, 46, 47, 48, 49, 50, 51, 52, 53, 54, 55, 56, 57, 58, 59, 60, 61, 62, 63] (by decide +kernel) (by decide +kernel)) (goodIn_sub (fun _ h => List.mem_cons_of_mem _ (List.mem_append_right _ h)) (by decide +kernel))
set_option maxRecDepth 20000 in
theorem gX6_setShares_X6_filmAt : GoodIn wsX6_setShares (wsV RX6 81 RX6 yX6_filmAt wsX6_filmAt) := goodIn_app (goodIn_of _ (by decide +kernel)) ggX6_setShares_X6_filmAt
set_option maxRecDepth 20000 in
theorem ggX6_setShares_X6_done : GoodIn wsX6_setShares wsX6_done := goodIn_r _ [36, 14, 37, 38, 39, 40, 41, 42, 43, 44, 45, 46, 47, 48, 49, 50, 51, 52, 53, 54, 55, 56, 57, 58, 59, 60, 61, 62, 63] (by decide +kernel) (by decide +kernel)
set_option maxRecDepth 20000 in
theorem gX6_setShares_X6_done : GoodIn wsX6_setShares (wsV RX6 71 RX6 yX6_done wsX6_done) := goodIn_app (goodIn_of _ (by decide +kernel)) ggX6_setShares_X6_done
theorem dX6_setShares_0 : decode cX6_setShares 0 = .ok (.aload_n 0, 1) := by decide +kernel
theorem dX6_setShares_1 : decode cX6_setShares 1 = .ok (.iload_n 1, 1) := by decide +kernel
theorem dX6_setShares_2 : decode cX6_setShares 2 = .ok (.invokevirtual 78, 3) := by decide +kernel
theorem dX6_setShares_5 : decode cX6_setShares 5 = .ok (.ifCond .ne 9, 3) := by decide +kernel
theorem dX6_setShares_8 : decode cX6_setShares 8 = .ok (.aload_n 0, 1) := by decide +kernel
theorem dX6_setShares_9 : decode cX6_setShares 9 = .ok (.iconst 1, 1) := by decide +kernel
theorem dX6_setShares_10 : decode cX6_setShares 10 = .ok (.invokevirtual 45, 3) := by decide +kernel
theorem dX6_setShares_13 : decode cX6_setShares 13 = .ok (.ireturn, 1) := by decide +kernel
theorem dX6_setShares_14 : decode cX6_setShares 14 = .ok (.iload_n 2, 1) := by decide +kernel
theorem dX6_setShares_15 : decode cX6_setShares 15 = .ok (.iconst 0, 1) := by decide +kernel
theorem dX6_setShares_16 : decode cX6_setShares 16 = .ok (.bipush 100, 2) := by decide +kernel
theorem dX6_setShares_18 : decode cX6_setShares 18 = .ok (.invokestatic 64, 3) := by decide +kernel
theorem dX6_setShares_21 : decode cX6_setShares 21 = .ok (.ifCond .eq 23, 3) := by decide +kernel
theorem dX6_setShares_24 : decode cX6_setShares 24 = .ok (.iload_n 3, 1) := by decide +kernel
theorem dX6_setShares_25 : decode cX6_setShares 25 = .ok (.iconst 0, 1) := by decide +kernel
theorem dX6_setShares_26 : decode cX6_setShares 26 = .ok (.bipush 50, 2) := by decide +kernel
theorem dX6_setShares_28 : decode cX6_setShares 28 = .ok (.invokestatic 64, 3) := by decide +kernel
theorem dX6_setShares_31 : decode cX6_setShares 31 = .ok (.ifCond .eq 13, 3) := by decide +kernel
theorem dX6_setShares_34 : decode cX6_setShares 34 = .ok (.iload 4, 2) := by decide +kernel
theorem dX6_setShares_36 : decode cX6_setShares 36 = .ok (.iconst 0, 1) := by decide +kernel
theorem dX6_setShares_37 : decode cX6_setShares 37 = .ok (.iload_n 2, 1) := by decide +kernel
theorem dX6_setShares_38 : decode cX6_setShares 38 = .ok (.invokestatic 64, 3) := by decide +kernel
theorem dX6_setShares_41 : decode cX6_setShares 41 = .ok (.ifCond .ne 9, 3) := by decide +kernel
theorem dX6_setShares_44 : decode cX6_setShares 44 = .ok (.aload_n 0, 1) := by decide +kernel
theorem dX6_setShares_45 : decode cX6_setShares 45 = .ok (.iconst 2, 1) := by decide +kernel
theorem dX6_setShares_46 : decode cX6_setShares 46 = .ok (.invokevirtual 45, 3) := by decide +kernel
theorem dX6_setShares_49 : decode cX6_setShares 49 = .ok (.ireturn, 1) := by decide +kernel
theorem dX6_setShares_50 : decode cX6_setShares 50 = .ok (.aload_n 0, 1) := by decide +kernel
theorem dX6_setShares_51 : decode cX6_setShares 51 = .ok (.invokevirtual 68, 3) := by decide +kernel
theorem dX6_setShares_54 : decode cX6_setShares 54 = .ok (.aload_n 0, 1) := by decide +kernel
theorem dX6_setShares_55 : decode cX6_setShares 55 = .ok (.iload_n 1, 1) := by decide +kernel
theorem dX6_setShares_56 : decode cX6_setShares 56 = .ok (.iconst 5, 1) := by decide +kernel
theorem dX6_setShares_57 : decode cX6_setShares 57 = .ok (.invokevirtual 81, 3) := by decide +kernel
theorem dX6_setShares_60 : decode cX6_setShares 60 = .ok (.istore 5, 2) := by decide +kernel
theorem dX6_setShares_62 : decode cX6_setShares 62 = .ok (.aload_n 0, 1) := by decide +kernel
theorem dX6_setShares_63 : decode cX6_setShares 63 = .ok (.getfield 9, 3) := by decide +kernel
theorem dX6_setShares_66 : decode cX6_setShares 66 = .ok (.bipush 54, 2) := by decide +kernel
theorem dX6_setShares_68 : decode cX6_setShares 68 = .ok (.bipush 8, 2) := by decide +kernel
theorem dX6_setShares_70 : decode cX6_setShares 70 = .ok (.iload_n 1, 1) := by decide +kernel
theorem dX6_setShares_71 : decode cX6_setShares 71 = .ok (.imul, 1) := by decide +kernel
theorem dX6_setShares_72 : decode cX6_setShares 72 = .ok (.iadd, 1) := by decide +kernel
theorem dX6_setShares_73 : decode cX6_setShares 73 = .ok (.iconst 5, 1) := by decide +kernel
theorem dX6_setShares_74 : decode cX6_setShares 74 = .ok (.iadd, 1) := by decide +kernel
theorem dX6_setShares_75 : decode cX6_setShares 75 = .ok (.iload_n 2, 1) := by decide +kernel
theorem dX6_setShares_76 : decode cX6_setShares 76 = .ok (.iastore, 1) := by decide +kernel
theorem dX6_setShares_77 : decode cX6_setShares 77 = .ok (.aload_n 0, 1) := by decide +kernel
theorem dX6_setShares_78 : decode cX6_setShares 78 = .ok (.getfield 9, 3) := by decide +kernel
theorem dX6_setShares_81 : decode cX6_setShares 81 = .ok (.bipush 54, 2) := by decide +kernel
theorem dX6_setShares_83 : decode cX6_setShares 83 = .ok (.bipush 8, 2) := by decide +kernel
theorem dX6_setShares_85 : decode cX6_setShares 85 = .ok (.iload_n 1, 1) := by decide +kernel
theorem dX6_setShares_86 : decode cX6_setShares 86 = .ok (.imul, 1) := by decide +kernel
theorem dX6_setShares_87 : decode cX6_setShares 87 = .ok (.iadd, 1) := by decide +kernel
theorem dX6_setShares_88 : decode cX6_setShares 88 = .ok (.bipush 6, 2) := by decide +kernel
theorem dX6_setShares_90 : decode cX6_setShares 90 = .ok (.iadd, 1) := by decide +kernel
theorem dX6_setShares_91 : decode cX6_setShares 91 = .ok (.iload_n 3, 1) := by decide +kernel
theorem dX6_setShares_92 : decode cX6_setShares 92 = .ok (.iastore, 1) := by decide +kernel
theorem dX6_setShares_93 : decode cX6_setShares 93 = .ok (.aload_n 0, 1) := by decide +kernel
theorem dX6_setShares_94 : decode cX6_setShares 94 = .ok (.getfield 9, 3) := by decide +kernel
theorem dX6_setShares_97 : decode cX6_setShares 97 = .ok (.bipush 54, 2) := by decide +kernel
theorem dX6_setShares_99 : decode cX6_setShares 99 = .ok (.bipush 8, 2) := by decide +kernel
theorem dX6_setShares_101 : decode cX6_setShares 101 = .ok (.iload_n 1, 1) := by decide +kernel
theorem dX6_setShares_102 : decode cX6_setShares 102 = .ok (.imul, 1) := by decide +kernel
theorem dX6_setShares_103 : decode cX6_setShares 103 = .ok (.iadd, 1) := by decide +kernel
theorem dX6_setShares_104 : decode cX6_setShares 104 = .ok (.bipush 7, 2) := by decide +kernel
theorem dX6_setShares_106 : decode cX6_setShares 106 = .ok (.iadd, 1) := by decide +kernel
theorem dX6_setShares_107 : decode cX6_setShares 107 = .ok (.iload 4, 2) := by decide +kernel
theorem dX6_setShares_109 : decode cX6_setShares 109 = .ok (.iastore, 1) := by decide +kernel
theorem dX6_setShares_110 : decode cX6_setShares 110 = .ok (.aload_n 0, 1) := by decide +kernel
theorem dX6_setShares_111 : decode cX6_setShares 111 = .ok (.iload 5, 2) := by decide +kernel
theorem dX6_setShares_113 : decode cX6_setShares 113 = .ok (.invokevirtual 71, 3) := by decide +kernel
theorem dX6_setShares_116 : decode cX6_setShares 116 = .ok (.ireturn, 1) := by decide +kernel
set_option maxRecDepth 20000 in
theorem ggX6_addTrailer_X6_isFilm : GoodIn wsX6_addTrailer wsX6_isFilm := goodIn_ca (goodIn_r _ [6, 1, 7, 8, 5, 9, 33, 34, 35, 36, 37, 38, 39, 40, 41, 42, 43, 44, 45, 46, 47, 48, 49, 50, 51, 52, 53, 54, 55, 56, 57, 58, 59] (by decide +kernel) (by decide +kernel)) (goodIn_sub (fun _ h => List.mem_cons_of_mem _ (List.mem_append_right _ h)) (by decide +kernel))
set_option maxRecDepth 20000 in
theorem gX6_addTrailer_X6_isFilm : GoodIn wsX6_addTrailer (wsV RX6 78 RX6 yX6_isFilm wsX6_isFilm) := goodIn_app (goodIn_of _ (by decide +kernel)) ggX6_addTrailer_X6_isFilm
set_option maxRecDepth 20000 in
theorem ggX6_addTrailer_X6_fails : GoodIn wsX6_addTrailer wsX6_fails := goodIn_r _ [13, 14, 33, 34, 35, 36, 37, 38, 39, 40, 41, 42, 43, 44, 45, 46, 47, 48, 49, 50, 51, 52, 53, 54, 55, 56, 57, 58, 59] (by decide +kernel) (by decide +kernel)
set_option maxRecDepth 20000 in
theorem gX6_addTrailer_X6_fails : GoodIn wsX6_addTrailer (wsV RX6 45 RX6 yX6_fails wsX6_fails) := goodIn_app (goodIn_of _ (by decide +kernel)) ggX6_addTrailer_X6_fails
set_option maxRecDepth 20000 in
theorem ggX6_addTrailer_X6_in : GoodIn wsX6_addTrailer wsX6_in := goodIn_r _ [9] (by decide +kernel) (by decide +kernel)
set_option maxRecDepth 20000 in
theorem gX6_addTrailer_X6_in : GoodIn wsX6_addTrailer (va_wsS RX6 64 yX6_in wsX6_in) := goodIn_app (goodIn_of _ (by decide +kernel)) ggX6_addTrailer_X6_in
set_option maxRecDepth 20000 in
theorem ggX6_addTrailer_X6_remembers : GoodIn wsX6_addTrailer wsX6_remembers := goodIn_ca (goodIn_r _ [18, 19, 1, 20, 21, 22, 5, 23, 24, 25, 26, 27, 28, 33, 34, 35, 36, 37, 38, 39, 40, 41, 42, 43, 44, 45, 46, 47, 48, 49, 50, 51, 52, 53, 54, 55, 56, 57, 58, 59] (by decide +kernel) (by decide +kernel)) (goodIn_sub (fun _ h => List.mem_cons_of_mem _ (List.mem_append_right _ h)) (by decide +kernel))
set_option maxRecDepth 20000 in
theorem gX6_addTrailer_X6_remembers : GoodIn wsX6_addTrailer (wsV RX6 68 RX6 yX6_remembers wsX6_remembers) := goodIn_app (goodIn_of _ (by decide +kernel)) ggX6_addTrailer_X6_remembers
set_option maxRecDepth 20000 in
theorem ggX6_addTrailer_X6_done : GoodIn wsX6_addTrailer wsX6_done := goodIn_r _ [32, 14, 33, 34, 35, 36, 37, 38, 39, 40, 41, 42, 43, 44, 45, 46, 47, 48, 49, 50, 51, 52, 53, 54, 55, 56, 57, 58, 59] (by decide +kernel) (by decide +kernel)
set_option maxRecDepth 20000 in
theorem gX6_addTrailer_X6_done : GoodIn wsX6_addTrailer (wsV RX6 71 RX6 yX6_done wsX6_done) := goodIn_app (goodIn_of _ (by decide +kernel)) ggX6_addTrailer_X6_done
theorem dX6_addTrailer_0 : decode cX6_addTrailer 0 = .ok (.aload_n 0, 1) := by decide +kernel
theorem dX6_addTrailer_1 : decode cX6_addTrailer 1 = .ok (.iload_n 1, 1) := by decide +kernel
theorem dX6_addTrailer_2 : decode cX6_addTrailer 2 = .ok (.invokevirtual 78, 3) := by decide +kernel
theorem dX6_addTrailer_5 : decode cX6_addTrailer 5 = .ok (.ifCond .ne 9, 3) := by decide +kernel
theorem dX6_addTrailer_8 : decode cX6_addTrailer 8 = .ok (.aload_n 0, 1) := by decide +kernel
theorem dX6_addTrailer_9 : decode cX6_addTrailer 9 = .ok (.iconst 1, 1) := by decide +kernel
theorem dX6_addTrailer_10 : decode cX6_addTrailer 10 = .ok (.invokevirtual 45, 3) := by decide +kernel
theorem dX6_addTrailer_13 : decode cX6_addTrailer 13 = .ok (.ireturn, 1) := by decide +kernel
theorem dX6_addTrailer_14 : decode cX6_addTrailer 14 = .ok (.iload_n 2, 1) := by decide +kernel
theorem dX6_addTrailer_15 : decode cX6_addTrailer 15 = .ok (.iconst 1, 1) := by decide +kernel
theorem dX6_addTrailer_16 : decode cX6_addTrailer 16 = .ok (.bipush 6, 2) := by decide +kernel
theorem dX6_addTrailer_18 : decode cX6_addTrailer 18 = .ok (.invokestatic 64, 3) := by decide +kernel
theorem dX6_addTrailer_21 : decode cX6_addTrailer 21 = .ok (.ifCond .eq 23, 3) := by decide +kernel
theorem dX6_addTrailer_24 : decode cX6_addTrailer 24 = .ok (.iload_n 3, 1) := by decide +kernel
theorem dX6_addTrailer_25 : decode cX6_addTrailer 25 = .ok (.iconst 0, 1) := by decide +kernel
theorem dX6_addTrailer_26 : decode cX6_addTrailer 26 = .ok (.iconst 3, 1) := by decide +kernel
theorem dX6_addTrailer_27 : decode cX6_addTrailer 27 = .ok (.invokestatic 64, 3) := by decide +kernel
theorem dX6_addTrailer_30 : decode cX6_addTrailer 30 = .ok (.ifCond .eq 14, 3) := by decide +kernel
theorem dX6_addTrailer_33 : decode cX6_addTrailer 33 = .ok (.iload 4, 2) := by decide +kernel
theorem dX6_addTrailer_35 : decode cX6_addTrailer 35 = .ok (.iconst 1, 1) := by decide +kernel
theorem dX6_addTrailer_36 : decode cX6_addTrailer 36 = .ok (.bipush 63, 2) := by decide +kernel
theorem dX6_addTrailer_38 : decode cX6_addTrailer 38 = .ok (.invokestatic 64, 3) := by decide +kernel
theorem dX6_addTrailer_41 : decode cX6_addTrailer 41 = .ok (.ifCond .ne 9, 3) := by decide +kernel
theorem dX6_addTrailer_44 : decode cX6_addTrailer 44 = .ok (.aload_n 0, 1) := by decide +kernel
theorem dX6_addTrailer_45 : decode cX6_addTrailer 45 = .ok (.iconst 2, 1) := by decide +kernel
theorem dX6_addTrailer_46 : decode cX6_addTrailer 46 = .ok (.invokevirtual 45, 3) := by decide +kernel
theorem dX6_addTrailer_49 : decode cX6_addTrailer 49 = .ok (.ireturn, 1) := by decide +kernel
theorem dX6_addTrailer_50 : decode cX6_addTrailer 50 = .ok (.aload_n 0, 1) := by decide +kernel
theorem dX6_addTrailer_51 : decode cX6_addTrailer 51 = .ok (.getfield 9, 3) := by decide +kernel
theorem dX6_addTrailer_54 : decode cX6_addTrailer 54 = .ok (.iconst 3, 1) := by decide +kernel
theorem dX6_addTrailer_55 : decode cX6_addTrailer 55 = .ok (.iaload, 1) := by decide +kernel
theorem dX6_addTrailer_56 : decode cX6_addTrailer 56 = .ok (.bipush 10, 2) := by decide +kernel
theorem dX6_addTrailer_58 : decode cX6_addTrailer 58 = .ok (.if_icmp .ne 9, 3) := by decide +kernel
theorem dX6_addTrailer_61 : decode cX6_addTrailer 61 = .ok (.aload_n 0, 1) := by decide +kernel
theorem dX6_addTrailer_62 : decode cX6_addTrailer 62 = .ok (.iconst 3, 1) := by decide +kernel
theorem dX6_addTrailer_63 : decode cX6_addTrailer 63 = .ok (.invokevirtual 45, 3) := by decide +kernel
theorem dX6_addTrailer_66 : decode cX6_addTrailer 66 = .ok (.ireturn, 1) := by decide +kernel
theorem dX6_addTrailer_67 : decode cX6_addTrailer 67 = .ok (.aload_n 0, 1) := by decide +kernel
theorem dX6_addTrailer_68 : decode cX6_addTrailer 68 = .ok (.invokevirtual 68, 3) := by decide +kernel
theorem dX6_addTrailer_71 : decode cX6_addTrailer 71 = .ok (.bipush 118, 2) := by decide +kernel
theorem dX6_addTrailer_73 : decode cX6_addTrailer 73 = .ok (.iconst 4, 1) := by decide +kernel
theorem dX6_addTrailer_74 : decode cX6_addTrailer 74 = .ok (.aload_n 0, 1) := by decide +kernel
theorem dX6_addTrailer_75 : decode cX6_addTrailer 75 = .ok (.getfield 9, 3) := by decide +kernel
theorem dX6_addTrailer_78 : decode cX6_addTrailer 78 = .ok (.iconst 3, 1) := by decide +kernel
theorem dX6_addTrailer_79 : decode cX6_addTrailer 79 = .ok (.iaload, 1) := by decide +kernel
theorem dX6_addTrailer_80 : decode cX6_addTrailer 80 = .ok (.imul, 1) := by decide +kernel
theorem dX6_addTrailer_81 : decode cX6_addTrailer 81 = .ok (.iadd, 1) := by decide +kernel
theorem dX6_addTrailer_82 : decode cX6_addTrailer 82 = .ok (.istore 5, 2) := by decide +kernel
theorem dX6_addTrailer_84 : decode cX6_addTrailer 84 = .ok (.aload_n 0, 1) := by decide +kernel
theorem dX6_addTrailer_85 : decode cX6_addTrailer 85 = .ok (.getfield 9, 3) := by decide +kernel
theorem dX6_addTrailer_88 : decode cX6_addTrailer 88 = .ok (.iload 5, 2) := by decide +kernel
theorem dX6_addTrailer_90 : decode cX6_addTrailer 90 = .ok (.iload_n 1, 1) := by decide +kernel
theorem dX6_addTrailer_91 : decode cX6_addTrailer 91 = .ok (.iastore, 1) := by decide +kernel
theorem dX6_addTrailer_92 : decode cX6_addTrailer 92 = .ok (.aload_n 0, 1) := by decide +kernel
theorem dX6_addTrailer_93 : decode cX6_addTrailer 93 = .ok (.getfield 9, 3) := by decide +kernel
theorem dX6_addTrailer_96 : decode cX6_addTrailer 96 = .ok (.iload 5, 2) := by decide +kernel
theorem dX6_addTrailer_98 : decode cX6_addTrailer 98 = .ok (.iconst 1, 1) := by decide +kernel
theorem dX6_addTrailer_99 : decode cX6_addTrailer 99 = .ok (.iadd, 1) := by decide +kernel
theorem dX6_addTrailer_100 : decode cX6_addTrailer 100 = .ok (.iload_n 2, 1) := by decide +kernel
theorem dX6_addTrailer_101 : decode cX6_addTrailer 101 = .ok (.iastore, 1) := by decide +kernel
theorem dX6_addTrailer_102 : decode cX6_addTrailer 102 = .ok (.aload_n 0, 1) := by decide +kernel
theorem dX6_addTrailer_103 : decode cX6_addTrailer 103 = .ok (.getfield 9, 3) := by decide +kernel
theorem dX6_addTrailer_106 : decode cX6_addTrailer 106 = .ok (.iload 5, 2) := by decide +kernel
theorem dX6_addTrailer_108 : decode cX6_addTrailer 108 = .ok (.iconst 2, 1) := by decide +kernel
theorem dX6_addTrailer_109 : decode cX6_addTrailer 109 = .ok (.iadd, 1) := by decide +kernel
theorem dX6_addTrailer_110 : decode cX6_addTrailer 110 = .ok (.iload_n 3, 1) := by decide +kernel
theorem dX6_addTrailer_111 : decode cX6_addTrailer 111 = .ok (.iastore, 1) := by decide +kernel
theorem dX6_addTrailer_112 : decode cX6_addTrailer 112 = .ok (.aload_n 0, 1) := by decide +kernel
theorem dX6_addTrailer_113 : decode cX6_addTrailer 113 = .ok (.getfield 9, 3) := by decide +kernel
theorem dX6_addTrailer_116 : decode cX6_addTrailer 116 = .ok (.iload 5, 2) := by decide +kernel
theorem dX6_addTrailer_118 : decode cX6_addTrailer 118 = .ok (.iconst 3, 1) := by decide +kernel
theorem dX6_addTrailer_119 : decode cX6_addTrailer 119 = .ok (.iadd, 1) := by decide +kernel
theorem dX6_addTrailer_120 : decode cX6_addTrailer 120 = .ok (.iload 4, 2) := by decide +kernel
theorem dX6_addTrailer_122 : decode cX6_addTrailer 122 = .ok (.iastore, 1) := by decide +kernel
theorem dX6_addTrailer_123 : decode cX6_addTrailer 123 = .ok (.aload_n 0, 1) := by decide +kernel
theorem dX6_addTrailer_124 : decode cX6_addTrailer 124 = .ok (.getfield 9, 3) := by decide +kernel
theorem dX6_addTrailer_127 : decode cX6_addTrailer 127 = .ok (.iconst 3, 1) := by decide +kernel
theorem dX6_addTrailer_128 : decode cX6_addTrailer 128 = .ok (.dup2, 1) := by decide +kernel
theorem dX6_addTrailer_129 : decode cX6_addTrailer 129 = .ok (.iaload, 1) := by decide +kernel
theorem dX6_addTrailer_130 : decode cX6_addTrailer 130 = .ok (.iconst 1, 1) := by decide +kernel
theorem dX6_addTrailer_131 : decode cX6_addTrailer 131 = .ok (.iadd, 1) := by decide +kernel
theorem dX6_addTrailer_132 : decode cX6_addTrailer 132 = .ok (.iastore, 1) := by decide +kernel
theorem dX6_addTrailer_133 : decode cX6_addTrailer 133 = .ok (.aload_n 0, 1) := by decide +kernel
theorem dX6_addTrailer_134 : decode cX6_addTrailer 134 = .ok (.aload_n 0, 1) := by decide +kernel
theorem dX6_addTrailer_135 : decode cX6_addTrailer 135 = .ok (.getfield 9, 3) := by decide +kernel
theorem dX6_addTrailer_138 : decode cX6_addTrailer 138 = .ok (.iconst 3, 1) := by decide +kernel
theorem dX6_addTrailer_139 : decode cX6_addTrailer 139 = .ok (.iaload, 1) := by decide +kernel
theorem dX6_addTrailer_140 : decode cX6_addTrailer 140 = .ok (.iconst 1, 1) := by decide +kernel
theorem dX6_addTrailer_141 : decode cX6_addTrailer 141 = .ok (.isub, 1) := by decide +kernel
theorem dX6_addTrailer_142 : decode cX6_addTrailer 142 = .ok (.invokevirtual 71, 3) := by decide +kernel
theorem dX6_addTrailer_145 : decode cX6_addTrailer 145 = .ok (.ireturn, 1) := by decide +kernel
set_option maxRecDepth 20000 in
theorem ggX6_isValue_X6_in : GoodIn wsX6_isValue wsX6_in := goodIn_r _ [4] (by decide +kernel) (by decide +kernel)
set_option maxRecDepth 20000 in
theorem gX6_isValue_X6_in : GoodIn wsX6_isValue (va_wsS RX6 64 yX6_in wsX6_in) := goodIn_app (goodIn_of _ (by decide +kernel)) ggX6_isValue_X6_in
theorem dX6_isValue_0 : decode cX6_isValue 0 = .ok (.iload_n 0, 1) := by decide +kernel
theorem dX6_isValue_1 : decode cX6_isValue 1 = .ok (.tableswitch 74 0 4 #[35, 43, 50, 58, 66], 35) := by decide +kernel
theorem dX6_isValue_36 : decode cX6_isValue 36 = .ok (.iload_n 1, 1) := by decide +kernel
theorem dX6_isValue_37 : decode cX6_isValue 37 = .ok (.iconst 0, 1) := by decide +kernel
theorem dX6_isValue_38 : decode cX6_isValue 38 = .ok (.bipush 30, 2) := by decide +kernel
theorem dX6_isValue_40 : decode cX6_isValue 40 = .ok (.invokestatic 64, 3) := by decide +kernel
theorem dX6_isValue_43 : decode cX6_isValue 43 = .ok (.ireturn, 1) := by decide +kernel
theorem dX6_isValue_44 : decode cX6_isValue 44 = .ok (.iload_n 1, 1) := by decide +kernel
theorem dX6_isValue_45 : decode cX6_isValue 45 = .ok (.iconst 1, 1) := by decide +kernel
theorem dX6_isValue_46 : decode cX6_isValue 46 = .ok (.iconst 3, 1) := by decide +kernel
theorem dX6_isValue_47 : decode cX6_isValue 47 = .ok (.invokestatic 64, 3) := by decide +kernel
theorem dX6_isValue_50 : decode cX6_isValue 50 = .ok (.ireturn, 1) := by decide +kernel
theorem dX6_isValue_51 : decode cX6_isValue 51 = .ok (.iload_n 1, 1) := by decide +kernel
theorem dX6_isValue_52 : decode cX6_isValue 52 = .ok (.iconst 0, 1) := by decide +kernel
theorem dX6_isValue_53 : decode cX6_isValue 53 = .ok (.bipush 60, 2) := by decide +kernel
theorem dX6_isValue_55 : decode cX6_isValue 55 = .ok (.invokestatic 64, 3) := by decide +kernel
theorem dX6_isValue_58 : decode cX6_isValue 58 = .ok (.ireturn, 1) := by decide +kernel
theorem dX6_isValue_59 : decode cX6_isValue 59 = .ok (.iload_n 1, 1) := by decide +kernel
theorem dX6_isValue_60 : decode cX6_isValue 60 = .ok (.iconst 0, 1) := by decide +kernel
theorem dX6_isValue_61 : decode cX6_isValue 61 = .ok (.bipush 20, 2) := by decide +kernel
theorem dX6_isValue_63 : decode cX6_isValue 63 = .ok (.invokestatic 64, 3) := by decide +kernel
theorem dX6_isValue_66 : decode cX6_isValue 66 = .ok (.ireturn, 1) := by decide +kernel
theorem dX6_isValue_67 : decode cX6_isValue 67 = .ok (.iload_n 1, 1) := by decide +kernel
theorem dX6_isValue_68 : decode cX6_isValue 68 = .ok (.iconst 0, 1) := by decide +kernel
theorem dX6_isValue_69 : decode cX6_isValue 69 = .ok (.bipush 120, 2) := by decide +kernel
theorem dX6_isValue_71 : decode cX6_isValue 71 = .ok (.invokestatic 64, 3) := by decide +kernel
theorem dX6_isValue_74 : decode cX6_isValue 74 = .ok (.ireturn, 1) := by decide +kernel
theorem dX6_isValue_75 : decode cX6_isValue 75 = .ok (.iload_n 1, 1) := by decide +kernel
theorem dX6_isValue_76 : decode cX6_isValue 76 = .ok (.iconst 1, 1) := by decide +kernel
theorem dX6_isValue_77 : decode cX6_isValue 77 = .ok (.bipush 99, 2) := by decide +kernel
theorem dX6_isValue_79 : decode cX6_isValue 79 = .ok (.invokestatic 64, 3) := by decide +kernel
theorem dX6_isValue_82 : decode cX6_isValue 82 = .ok (.ireturn, 1) := by decide +kernel
set_option maxRecDepth 20000 in
theorem ggX6_set_X6_in : GoodIn wsX6_set wsX6_in := goodIn_r _ [5] (by decide +kernel) (by decide +kernel)
set_option maxRecDepth 20000 in
theorem gX6_set_X6_in : GoodIn wsX6_set (va_wsS RX6 64 yX6_in wsX6_in) := goodIn_app (goodIn_of _ (by decide +kernel)) ggX6_set_X6_in
set_option maxRecDepth 20000 in
theorem ggX6_set_X6_fails : GoodIn wsX6_set wsX6_fails := goodIn_r _ [9, 10, 32, 33, 34, 35, 36, 37, 38, 39, 40, 41, 42, 43, 44, 45, 46, 47, 48, 49, 50, 51, 52, 53, 54, 55, 56, 57, 58] (by decide +kernel) (by decide +kernel)
set_option maxRecDepth 20000 in
theorem gX6_set_X6_fails : GoodIn wsX6_set (wsV RX6 45 RX6 yX6_fails wsX6_fails) := goodIn_app (goodIn_of _ (by decide +kernel)) ggX6_set_X6_fails
set_option maxRecDepth 20000 in
theorem ggX6_set_X6_isValue : GoodIn wsX6_set wsX6_isValue := goodIn_r _ [13, 2, 3, 4, 5] (by decide +kernel) (by decide +kernel)
set_option maxRecDepth 20000 in
theorem gX6_set_X6_isValue : GoodIn wsX6_set (va_wsS RX6 85 yX6_isValue wsX6_isValue) := goodIn_app (goodIn_of _ (by decide +kernel)) ggX6_set_X6_isValue
set_option maxRecDepth 20000 in
theorem ggX6_set_X6_remembers : GoodIn wsX6_set wsX6_remembers := goodIn_ca (goodIn_r _ [17, 18, 1, 19, 20, 21, 4, 22, 23, 24, 25, 26, 27, 32, 33, 34, 35, 36, 37, 38, 39, 40, 41, 42, 43, 44, 45, 46, 47, 48, 49, 50, 51, 52, 53, 54, 55, 56, 57, 58] (by decide +kernel) (by decide +kernel)) (goodIn_sub (fun _ h => List.mem_cons_of_mem _ (List.mem_append_right _ h)) (by decide +kernel))
set_option maxRecDepth 20000 in
theorem gX6_set_X6_remembers : GoodIn wsX6_set (wsV RX6 68 RX6 yX6_remembers wsX6_remembers) := goodIn_app (goodIn_of _ (by decide +kernel)) ggX6_set_X6_remembers
set_option maxRecDepth 20000 in
theorem ggX6_set_X6_done : GoodIn wsX6_set wsX6_done := goodIn_r _ [31, 10, 32, 33, 34, 35, 36, 37, 38, 39, 40, 41, 42, 43, 44, 45, 46, 47, 48, 49, 50, 51, 52, 53, 54, 55, 56, 57, 58] (by decide +kernel) (by decide +kernel)
set_option maxRecDepth 20000 in
theorem gX6_set_X6_done : GoodIn wsX6_set (wsV RX6 71 RX6 yX6_done wsX6_done) := goodIn_app (goodIn_of _ (by decide +kernel)) ggX6_set_X6_done
theorem dX6_set_0 : decode cX6_set 0 = .ok (.iload_n 1, 1) := by decide +kernel
theorem dX6_set_1 : decode cX6_set 1 = .ok (.iconst 0, 1) := by decide +kernel
theorem dX6_set_2 : decode cX6_set 2 = .ok (.iconst 5, 1) := by decide +kernel
theorem dX6_set_3 : decode cX6_set 3 = .ok (.invokestatic 64, 3) := by decide +kernel
theorem dX6_set_6 : decode cX6_set 6 = .ok (.ifCond .ne 9, 3) := by decide +kernel
theorem dX6_set_9 : decode cX6_set 9 = .ok (.aload_n 0, 1) := by decide +kernel
theorem dX6_set_10 : decode cX6_set 10 = .ok (.iconst 1, 1) := by decide +kernel
theorem dX6_set_11 : decode cX6_set 11 = .ok (.invokevirtual 45, 3) := by decide +kernel
theorem dX6_set_14 : decode cX6_set 14 = .ok (.ireturn, 1) := by decide +kernel
theorem dX6_set_15 : decode cX6_set 15 = .ok (.iload_n 1, 1) := by decide +kernel
theorem dX6_set_16 : decode cX6_set 16 = .ok (.iload_n 2, 1) := by decide +kernel
theorem dX6_set_17 : decode cX6_set 17 = .ok (.invokestatic 85, 3) := by decide +kernel
theorem dX6_set_20 : decode cX6_set 20 = .ok (.ifCond .ne 9, 3) := by decide +kernel
theorem dX6_set_23 : decode cX6_set 23 = .ok (.aload_n 0, 1) := by decide +kernel
theorem dX6_set_24 : decode cX6_set 24 = .ok (.iconst 2, 1) := by decide +kernel
theorem dX6_set_25 : decode cX6_set 25 = .ok (.invokevirtual 45, 3) := by decide +kernel
theorem dX6_set_28 : decode cX6_set 28 = .ok (.ireturn, 1) := by decide +kernel
theorem dX6_set_29 : decode cX6_set 29 = .ok (.aload_n 0, 1) := by decide +kernel
theorem dX6_set_30 : decode cX6_set 30 = .ok (.invokevirtual 68, 3) := by decide +kernel
theorem dX6_set_33 : decode cX6_set 33 = .ok (.aload_n 0, 1) := by decide +kernel
theorem dX6_set_34 : decode cX6_set 34 = .ok (.getfield 9, 3) := by decide +kernel
theorem dX6_set_37 : decode cX6_set 37 = .ok (.bipush 8, 2) := by decide +kernel
theorem dX6_set_39 : decode cX6_set 39 = .ok (.iload_n 1, 1) := by decide +kernel
theorem dX6_set_40 : decode cX6_set 40 = .ok (.iadd, 1) := by decide +kernel
theorem dX6_set_41 : decode cX6_set 41 = .ok (.iaload, 1) := by decide +kernel
theorem dX6_set_42 : decode cX6_set 42 = .ok (.istore_n 3, 1) := by decide +kernel
theorem dX6_set_43 : decode cX6_set 43 = .ok (.aload_n 0, 1) := by decide +kernel
theorem dX6_set_44 : decode cX6_set 44 = .ok (.getfield 9, 3) := by decide +kernel
theorem dX6_set_47 : decode cX6_set 47 = .ok (.bipush 8, 2) := by decide +kernel
theorem dX6_set_49 : decode cX6_set 49 = .ok (.iload_n 1, 1) := by decide +kernel
theorem dX6_set_50 : decode cX6_set 50 = .ok (.iadd, 1) := by decide +kernel
theorem dX6_set_51 : decode cX6_set 51 = .ok (.iload_n 2, 1) := by decide +kernel
theorem dX6_set_52 : decode cX6_set 52 = .ok (.iastore, 1) := by decide +kernel
theorem dX6_set_53 : decode cX6_set 53 = .ok (.aload_n 0, 1) := by decide +kernel
theorem dX6_set_54 : decode cX6_set 54 = .ok (.iload_n 3, 1) := by decide +kernel
theorem dX6_set_55 : decode cX6_set 55 = .ok (.invokevirtual 71, 3) := by decide +kernel
theorem dX6_set_58 : decode cX6_set 58 = .ok (.ireturn, 1) := by decide +kernel
set_option maxRecDepth 20000 in
theorem ggX6_setLimit_X6_in : GoodIn wsX6_setLimit wsX6_in := goodIn_r _ [5] (by decide +kernel) (by decide +kernel)
set_option maxRecDepth 20000 in
theorem gX6_setLimit_X6_in : GoodIn wsX6_setLimit (va_wsS RX6 64 yX6_in wsX6_in) := goodIn_app (goodIn_of _ (by decide +kernel)) ggX6_setLimit_X6_in
set_option maxRecDepth 20000 in
theorem ggX6_setLimit_X6_fails : GoodIn wsX6_setLimit wsX6_fails := goodIn_r _ [9, 10, 29, 30, 31, 32, 33, 34, 35, 36, 37, 38, 39, 40, 41, 42, 43, 44, 45, 46, 47, 48, 49, 50, 51, 52, 53, 54, 55] (by decide +kernel) (by decide +kernel)
set_option maxRecDepth 20000 in
theorem gX6_setLimit_X6_fails : GoodIn wsX6_setLimit (wsV RX6 45 RX6 yX6_fails wsX6_fails) := goodIn_app (goodIn_of _ (by decide +kernel)) ggX6_setLimit_X6_fails
set_option maxRecDepth 20000 in
theorem ggX6_setLimit_X6_remembers : GoodIn wsX6_setLimit wsX6_remembers := goodIn_ca (goodIn_r _ [14, 15, 1, 16, 17, 18, 4, 19, 20, 21, 22, 23, 24, 29, 30, 31, 32, 33, 34, 35, 36, 37, 38, 39, 40, 41, 42, 43, 44, 45, 46, 47, 48, 49, 50, 51, 52, 53, 54, 55] (by decide +kernel) (by decide +kernel)) (goodIn_sub (fun _ h => List.mem_cons_of_mem _ (List.mem_append_right _ h)) (by decide +kernel))
set_option maxRecDepth 20000 in
theorem gX6_setLimit_X6_remembers : GoodIn wsX6_setLimit (wsV RX6 68 RX6 yX6_remembers wsX6_remembers) := goodIn_app (goodIn_of _ (by decide +kernel)) ggX6_setLimit_X6_remembers
set_option maxRecDepth 20000 in
theorem ggX6_setLimit_X6_done : GoodIn wsX6_setLimit wsX6_done := goodIn_r _ [28, 10, 29, 30, 31, 32, 33, 34, 35, 36, 37, 38, 39, 40, 41, 42, 43, 44, 45, 46, 47, 48, 49, 50, 51, 52, 53, 54, 55] (by decide +kernel) (by decide +kernel)
set_option maxRecDepth 20000 in
theorem gX6_setLimit_X6_done : GoodIn wsX6_setLimit (wsV RX6 71 RX6 yX6_done wsX6_done) := goodIn_app (goodIn_of _ (by decide +kernel)) ggX6_setLimit_X6_done
theorem dX6_setLimit_0 : decode cX6_setLimit 0 = .ok (.iload_n 1, 1) := by decide +kernel
theorem dX6_setLimit_1 : decode cX6_setLimit 1 = .ok (.iconst 0, 1) := by decide +kernel
theorem dX6_setLimit_2 : decode cX6_setLimit 2 = .ok (.bipush 15, 2) := by decide +kernel
theorem dX6_setLimit_4 : decode cX6_setLimit 4 = .ok (.invokestatic 64, 3) := by decide +kernel
theorem dX6_setLimit_7 : decode cX6_setLimit 7 = .ok (.ifCond .ne 9, 3) := by decide +kernel
theorem dX6_setLimit_10 : decode cX6_setLimit 10 = .ok (.aload_n 0, 1) := by decide +kernel
theorem dX6_setLimit_11 : decode cX6_setLimit 11 = .ok (.iconst 1, 1) := by decide +kernel
theorem dX6_setLimit_12 : decode cX6_setLimit 12 = .ok (.invokevirtual 45, 3) := by decide +kernel
theorem dX6_setLimit_15 : decode cX6_setLimit 15 = .ok (.ireturn, 1) := by decide +kernel
theorem dX6_setLimit_16 : decode cX6_setLimit 16 = .ok (.iload_n 2, 1) := by decide +kernel
theorem dX6_setLimit_17 : decode cX6_setLimit 17 = .ok (.iconst 0, 1) := by decide +kernel
theorem dX6_setLimit_18 : decode cX6_setLimit 18 = .ok (.iconst 3, 1) := by decide +kernel
theorem dX6_setLimit_19 : decode cX6_setLimit 19 = .ok (.invokestatic 64, 3) := by decide +kernel
theorem dX6_setLimit_22 : decode cX6_setLimit 22 = .ok (.ifCond .ne 9, 3) := by decide +kernel
theorem dX6_setLimit_25 : decode cX6_setLimit 25 = .ok (.aload_n 0, 1) := by decide +kernel
theorem dX6_setLimit_26 : decode cX6_setLimit 26 = .ok (.iconst 2, 1) := by decide +kernel
theorem dX6_setLimit_27 : decode cX6_setLimit 27 = .ok (.invokevirtual 45, 3) := by decide +kernel
theorem dX6_setLimit_30 : decode cX6_setLimit 30 = .ok (.ireturn, 1) := by decide +kernel
theorem dX6_setLimit_31 : decode cX6_setLimit 31 = .ok (.aload_n 0, 1) := by decide +kernel
theorem dX6_setLimit_32 : decode cX6_setLimit 32 = .ok (.invokevirtual 68, 3) := by decide +kernel
theorem dX6_setLimit_35 : decode cX6_setLimit 35 = .ok (.aload_n 0, 1) := by decide +kernel
theorem dX6_setLimit_36 : decode cX6_setLimit 36 = .ok (.getfield 9, 3) := by decide +kernel
theorem dX6_setLimit_39 : decode cX6_setLimit 39 = .ok (.bipush 14, 2) := by decide +kernel
theorem dX6_setLimit_41 : decode cX6_setLimit 41 = .ok (.iload_n 1, 1) := by decide +kernel
theorem dX6_setLimit_42 : decode cX6_setLimit 42 = .ok (.iadd, 1) := by decide +kernel
theorem dX6_setLimit_43 : decode cX6_setLimit 43 = .ok (.iaload, 1) := by decide +kernel
theorem dX6_setLimit_44 : decode cX6_setLimit 44 = .ok (.istore_n 3, 1) := by decide +kernel
theorem dX6_setLimit_45 : decode cX6_setLimit 45 = .ok (.aload_n 0, 1) := by decide +kernel
theorem dX6_setLimit_46 : decode cX6_setLimit 46 = .ok (.getfield 9, 3) := by decide +kernel
theorem dX6_setLimit_49 : decode cX6_setLimit 49 = .ok (.bipush 14, 2) := by decide +kernel
theorem dX6_setLimit_51 : decode cX6_setLimit 51 = .ok (.iload_n 1, 1) := by decide +kernel
theorem dX6_setLimit_52 : decode cX6_setLimit 52 = .ok (.iadd, 1) := by decide +kernel
theorem dX6_setLimit_53 : decode cX6_setLimit 53 = .ok (.iload_n 2, 1) := by decide +kernel
theorem dX6_setLimit_54 : decode cX6_setLimit 54 = .ok (.iastore, 1) := by decide +kernel
theorem dX6_setLimit_55 : decode cX6_setLimit 55 = .ok (.aload_n 0, 1) := by decide +kernel
theorem dX6_setLimit_56 : decode cX6_setLimit 56 = .ok (.iload_n 3, 1) := by decide +kernel
theorem dX6_setLimit_57 : decode cX6_setLimit 57 = .ok (.invokevirtual 71, 3) := by decide +kernel
theorem dX6_setLimit_60 : decode cX6_setLimit 60 = .ok (.ireturn, 1) := by decide +kernel
set_option maxRecDepth 20000 in
theorem ggX6_setting_X6_in : GoodIn wsX6_setting wsX6_in := goodIn_r _ [5] (by decide +kernel) (by decide +kernel)
set_option maxRecDepth 20000 in
theorem gX6_setting_X6_in : GoodIn wsX6_setting (va_wsS RX6 64 yX6_in wsX6_in) := goodIn_app (goodIn_of _ (by decide +kernel)) ggX6_setting_X6_in
set_option maxRecDepth 20000 in
theorem ggX6_setting_X6_done : GoodIn wsX6_setting wsX6_done := goodIn_r _ [9, 10, 15, 16, 17, 18, 19, 20, 21, 22, 23, 24, 25, 26, 27, 28, 29, 30, 31, 32, 33, 34, 35, 36, 37, 38, 39, 40, 41] (by decide +kernel) (by decide +kernel)
set_option maxRecDepth 20000 in
theorem gX6_setting_X6_done : GoodIn wsX6_setting (wsV RX6 71 RX6 yX6_done wsX6_done) := goodIn_app (goodIn_of _ (by decide +kernel)) ggX6_setting_X6_done
set_option maxRecDepth 20000 in
theorem ggX6_setting_X6_fails : GoodIn wsX6_setting wsX6_fails := goodIn_r _ [14, 10, 15, 16, 17, 18, 19, 20, 21, 22, 23, 24, 25, 26, 27, 28, 29, 30, 31, 32, 33, 34, 35, 36, 37, 38, 39, 40, 41] (by decide +kernel) (by decide +kernel)
set_option maxRecDepth 20000 in
theorem gX6_setting_X6_fails : GoodIn wsX6_setting (wsV RX6 45 RX6 yX6_fails wsX6_fails) := goodIn_app (goodIn_of _ (by decide +kernel)) ggX6_setting_X6_fails
theorem dX6_setting_0 : decode cX6_setting 0 = .ok (.iload_n 1, 1) := by decide +kernel
theorem dX6_setting_1 : decode cX6_setting 1 = .ok (.iconst 0, 1) := by decide +kernel
theorem dX6_setting_2 : decode cX6_setting 2 = .ok (.iconst 5, 1) := by decide +kernel
theorem dX6_setting_3 : decode cX6_setting 3 = .ok (.invokestatic 64, 3) := by decide +kernel
theorem dX6_setting_6 : decode cX6_setting 6 = .ok (.ifCond .eq 19, 3) := by decide +kernel
theorem dX6_setting_9 : decode cX6_setting 9 = .ok (.aload_n 0, 1) := by decide +kernel
theorem dX6_setting_10 : decode cX6_setting 10 = .ok (.aload_n 0, 1) := by decide +kernel
theorem dX6_setting_11 : decode cX6_setting 11 = .ok (.getfield 9, 3) := by decide +kernel
theorem dX6_setting_14 : decode cX6_setting 14 = .ok (.bipush 8, 2) := by decide +kernel
theorem dX6_setting_16 : decode cX6_setting 16 = .ok (.iload_n 1, 1) := by decide +kernel
theorem dX6_setting_17 : decode cX6_setting 17 = .ok (.iadd, 1) := by decide +kernel
theorem dX6_setting_18 : decode cX6_setting 18 = .ok (.iaload, 1) := by decide +kernel
theorem dX6_setting_19 : decode cX6_setting 19 = .ok (.invokevirtual 71, 3) := by decide +kernel
theorem dX6_setting_22 : decode cX6_setting 22 = .ok (.goto 38, 3) := by decide +kernel
theorem dX6_setting_25 : decode cX6_setting 25 = .ok (.iload_n 1, 1) := by decide +kernel
theorem dX6_setting_26 : decode cX6_setting 26 = .ok (.bipush 10, 2) := by decide +kernel
theorem dX6_setting_28 : decode cX6_setting 28 = .ok (.bipush 25, 2) := by decide +kernel
theorem dX6_setting_30 : decode cX6_setting 30 = .ok (.invokestatic 64, 3) := by decide +kernel
theorem dX6_setting_33 : decode cX6_setting 33 = .ok (.ifCond .eq 22, 3) := by decide +kernel
theorem dX6_setting_36 : decode cX6_setting 36 = .ok (.aload_n 0, 1) := by decide +kernel
theorem dX6_setting_37 : decode cX6_setting 37 = .ok (.aload_n 0, 1) := by decide +kernel
theorem dX6_setting_38 : decode cX6_setting 38 = .ok (.getfield 9, 3) := by decide +kernel
theorem dX6_setting_41 : decode cX6_setting 41 = .ok (.bipush 14, 2) := by decide +kernel
theorem dX6_setting_43 : decode cX6_setting 43 = .ok (.iload_n 1, 1) := by decide +kernel
theorem dX6_setting_44 : decode cX6_setting 44 = .ok (.iadd, 1) := by decide +kernel
theorem dX6_setting_45 : decode cX6_setting 45 = .ok (.bipush 10, 2) := by decide +kernel
theorem dX6_setting_47 : decode cX6_setting 47 = .ok (.isub, 1) := by decide +kernel
theorem dX6_setting_48 : decode cX6_setting 48 = .ok (.iaload, 1) := by decide +kernel
theorem dX6_setting_49 : decode cX6_setting 49 = .ok (.invokevirtual 71, 3) := by decide +kernel
theorem dX6_setting_52 : decode cX6_setting 52 = .ok (.goto 8, 3) := by decide +kernel
theorem dX6_setting_55 : decode cX6_setting 55 = .ok (.aload_n 0, 1) := by decide +kernel
theorem dX6_setting_56 : decode cX6_setting 56 = .ok (.iconst 1, 1) := by decide +kernel
theorem dX6_setting_57 : decode cX6_setting 57 = .ok (.invokevirtual 45, 3) := by decide +kernel
theorem dX6_setting_60 : decode cX6_setting 60 = .ok (.ireturn, 1) := by decide +kernel
set_option maxRecDepth 20000 in
theorem ggX6_minutesOf_X6_showAt : GoodIn wsX6_minutesOf wsX6_showAt := goodIn_ca (goodIn_r _ [5, 6, 11, 12, 13, 14, 15, 16, 17, 18, 19, 20, 21, 22, 23, 24, 25, 26, 27, 28, 29, 30, 31, 32, 33, 34, 35, 36, 37] (by decide +kernel) (by decide +kernel)) (goodIn_sub (fun _ h => List.mem_cons_of_mem _ (List.mem_append_right _ h)) (by decide +kernel))
set_option maxRecDepth 20000 in
theorem gX6_minutesOf_X6_showAt : GoodIn wsX6_minutesOf (wsV RX6 89 RX6 yX6_showAt wsX6_showAt) := goodIn_app (goodIn_of _ (by decide +kernel)) ggX6_minutesOf_X6_showAt
set_option maxRecDepth 20000 in
theorem ggX6_minutesOf_X6_filmAt : GoodIn wsX6_minutesOf wsX6_filmAt := goodIn_ca (goodIn_r _ [10, 6, 11, 12, 13, 14, 15, 16, 17, 18, 19, 20, 21, 22, 23, 24, 25, 26, 27, 28, 29, 30, 31, 32, 33, 34, 35, 36, 37] (by decide +kernel) (by decide +kernel)) (goodIn_sub (fun _ h => List.mem_cons_of_mem _ (List.mem_append_right _ h)) (by decide +kernel))
set_option maxRecDepth 20000 in
theorem gX6_minutesOf_X6_filmAt : GoodIn wsX6_minutesOf (wsV RX6 81 RX6 yX6_filmAt wsX6_filmAt) := goodIn_app (goodIn_of _ (by decide +kernel)) ggX6_minutesOf_X6_filmAt
theorem dX6_minutesOf_0 : decode cX6_minutesOf 0 = .ok (.aload_n 0, 1) := by decide +kernel
theorem dX6_minutesOf_1 : decode cX6_minutesOf 1 = .ok (.iload_n 1, 1) := by decide +kernel
theorem dX6_minutesOf_2 : decode cX6_minutesOf 2 = .ok (.iconst 5, 1) := by decide +kernel
theorem dX6_minutesOf_3 : decode cX6_minutesOf 3 = .ok (.invokevirtual 89, 3) := by decide +kernel
theorem dX6_minutesOf_6 : decode cX6_minutesOf 6 = .ok (.aload_n 0, 1) := by decide +kernel
theorem dX6_minutesOf_7 : decode cX6_minutesOf 7 = .ok (.aload_n 0, 1) := by decide +kernel
theorem dX6_minutesOf_8 : decode cX6_minutesOf 8 = .ok (.iload_n 1, 1) := by decide +kernel
theorem dX6_minutesOf_9 : decode cX6_minutesOf 9 = .ok (.iconst 1, 1) := by decide +kernel
theorem dX6_minutesOf_10 : decode cX6_minutesOf 10 = .ok (.invokevirtual 89, 3) := by decide +kernel
theorem dX6_minutesOf_13 : decode cX6_minutesOf 13 = .ok (.iconst 0, 1) := by decide +kernel
theorem dX6_minutesOf_14 : decode cX6_minutesOf 14 = .ok (.invokevirtual 81, 3) := by decide +kernel
theorem dX6_minutesOf_17 : decode cX6_minutesOf 17 = .ok (.iadd, 1) := by decide +kernel
theorem dX6_minutesOf_18 : decode cX6_minutesOf 18 = .ok (.ireturn, 1) := by decide +kernel
set_option maxRecDepth 20000 in
theorem ggX6_endOf_X6_showAt : GoodIn wsX6_endOf wsX6_showAt := goodIn_ca (goodIn_r _ [5, 6, 15, 16, 17, 18, 19, 20, 21, 22, 23, 24, 25, 26, 27, 28, 29, 30, 31, 32, 33, 34, 35, 36, 37, 38, 39, 40, 41] (by decide +kernel) (by decide +kernel)) (goodIn_sub (fun _ h => List.mem_cons_of_mem _ (List.mem_append_right _ h)) (by decide +kernel))
set_option maxRecDepth 20000 in
theorem gX6_endOf_X6_showAt : GoodIn wsX6_endOf (wsV RX6 89 RX6 yX6_showAt wsX6_showAt) := goodIn_app (goodIn_of _ (by decide +kernel)) ggX6_endOf_X6_showAt
set_option maxRecDepth 20000 in
theorem ggX6_endOf_X6_minutesOf : GoodIn wsX6_endOf wsX6_minutesOf := goodIn_ca (goodIn_r _ [10, 1, 2, 3, 4, 5, 6, 11, 12, 13, 14, 15, 16, 17, 18, 19, 20, 21, 22, 23, 24, 25, 26, 27, 28, 29, 30, 31, 32, 33, 34, 35, 36, 37, 38, 39, 40, 41] (by decide +kernel) (by decide +kernel)) (goodIn_sub (fun _ h => List.mem_cons_of_mem _ (List.mem_append_right _ h)) (by decide +kernel))
set_option maxRecDepth 20000 in
theorem gX6_endOf_X6_minutesOf : GoodIn wsX6_endOf (wsV RX6 92 RX6 yX6_minutesOf wsX6_minutesOf) := goodIn_app (goodIn_of _ (by decide +kernel)) ggX6_endOf_X6_minutesOf
theorem dX6_endOf_0 : decode cX6_endOf 0 = .ok (.aload_n 0, 1) := by decide +kernel
theorem dX6_endOf_1 : decode cX6_endOf 1 = .ok (.iload_n 1, 1) := by decide +kernel
theorem dX6_endOf_2 : decode cX6_endOf 2 = .ok (.iconst 3, 1) := by decide +kernel
theorem dX6_endOf_3 : decode cX6_endOf 3 = .ok (.invokevirtual 89, 3) := by decide +kernel
theorem dX6_endOf_6 : decode cX6_endOf 6 = .ok (.aload_n 0, 1) := by decide +kernel
theorem dX6_endOf_7 : decode cX6_endOf 7 = .ok (.iload_n 1, 1) := by decide +kernel
theorem dX6_endOf_8 : decode cX6_endOf 8 = .ok (.invokevirtual 92, 3) := by decide +kernel
theorem dX6_endOf_11 : decode cX6_endOf 11 = .ok (.iadd, 1) := by decide +kernel
theorem dX6_endOf_12 : decode cX6_endOf 12 = .ok (.ireturn, 1) := by decide +kernel
set_option maxRecDepth 20000 in
theorem ggX6_cleanOf_X6_showAt : GoodIn wsX6_cleanOf wsX6_showAt := goodIn_ca (goodIn_r _ [5, 6, 11, 12, 13, 14, 15, 16, 17, 18, 19, 20, 21, 22, 23, 24, 25, 26, 27, 28, 29, 30, 31, 32, 33, 34, 35, 36, 37] (by decide +kernel) (by decide +kernel)) (goodIn_sub (fun _ h => List.mem_cons_of_mem _ (List.mem_append_right _ h)) (by decide +kernel))
set_option maxRecDepth 20000 in
theorem gX6_cleanOf_X6_showAt : GoodIn wsX6_cleanOf (wsV RX6 89 RX6 yX6_showAt wsX6_showAt) := goodIn_app (goodIn_of _ (by decide +kernel)) ggX6_cleanOf_X6_showAt
set_option maxRecDepth 20000 in
theorem ggX6_cleanOf_X6_hallAt : GoodIn wsX6_cleanOf wsX6_hallAt := goodIn_ca (goodIn_r _ [10, 6, 11, 12, 13, 14, 15, 16, 17, 18, 19, 20, 21, 22, 23, 24, 25, 26, 27, 28, 29, 30, 31, 32, 33, 34, 35, 36, 37] (by decide +kernel) (by decide +kernel)) (goodIn_sub (fun _ h => List.mem_cons_of_mem _ (List.mem_append_right _ h)) (by decide +kernel))
set_option maxRecDepth 20000 in
theorem gX6_cleanOf_X6_hallAt : GoodIn wsX6_cleanOf (wsV RX6 95 RX6 yX6_hallAt wsX6_hallAt) := goodIn_app (goodIn_of _ (by decide +kernel)) ggX6_cleanOf_X6_hallAt
theorem dX6_cleanOf_0 : decode cX6_cleanOf 0 = .ok (.aload_n 0, 1) := by decide +kernel
theorem dX6_cleanOf_1 : decode cX6_cleanOf 1 = .ok (.aload_n 0, 1) := by decide +kernel
theorem dX6_cleanOf_2 : decode cX6_cleanOf 2 = .ok (.iload_n 1, 1) := by decide +kernel
theorem dX6_cleanOf_3 : decode cX6_cleanOf 3 = .ok (.iconst 0, 1) := by decide +kernel
theorem dX6_cleanOf_4 : decode cX6_cleanOf 4 = .ok (.invokevirtual 89, 3) := by decide +kernel
theorem dX6_cleanOf_7 : decode cX6_cleanOf 7 = .ok (.iconst 1, 1) := by decide +kernel
theorem dX6_cleanOf_8 : decode cX6_cleanOf 8 = .ok (.invokevirtual 95, 3) := by decide +kernel
theorem dX6_cleanOf_11 : decode cX6_cleanOf 11 = .ok (.ireturn, 1) := by decide +kernel
set_option maxRecDepth 20000 in
theorem ggX6_stands_X6_showAt : GoodIn wsX6_stands wsX6_showAt := goodIn_ca (goodIn_r _ [5, 6, 7, 8, 9, 10, 11, 12, 13, 14, 15, 16, 17, 18, 19, 20, 21, 22, 23, 24, 25, 26, 27, 28, 29, 30, 31, 32, 33] (by decide +kernel) (by decide +kernel)) (goodIn_sub (fun _ h => List.mem_cons_of_mem _ (List.mem_append_right _ h)) (by decide +kernel))
set_option maxRecDepth 20000 in
theorem gX6_stands_X6_showAt : GoodIn wsX6_stands (wsV RX6 89 RX6 yX6_showAt wsX6_showAt) := goodIn_app (goodIn_of _ (by decide +kernel)) ggX6_stands_X6_showAt
theorem dX6_stands_0 : decode cX6_stands 0 = .ok (.aload_n 0, 1) := by decide +kernel
theorem dX6_stands_1 : decode cX6_stands 1 = .ok (.iload_n 1, 1) := by decide +kernel
theorem dX6_stands_2 : decode cX6_stands 2 = .ok (.bipush 8, 2) := by decide +kernel
theorem dX6_stands_4 : decode cX6_stands 4 = .ok (.invokevirtual 89, 3) := by decide +kernel
theorem dX6_stands_7 : decode cX6_stands 7 = .ok (.ifCond .ne 7, 3) := by decide +kernel
theorem dX6_stands_10 : decode cX6_stands 10 = .ok (.iconst 1, 1) := by decide +kernel
theorem dX6_stands_11 : decode cX6_stands 11 = .ok (.goto 4, 3) := by decide +kernel
theorem dX6_stands_14 : decode cX6_stands 14 = .ok (.iconst 0, 1) := by decide +kernel
theorem dX6_stands_15 : decode cX6_stands 15 = .ok (.ireturn, 1) := by decide +kernel
set_option maxRecDepth 20000 in
theorem ggX6_isOver_X6_showAt : GoodIn wsX6_isOver wsX6_showAt := goodIn_ca (goodIn_r _ [6, 1, 7, 8, 9, 10, 11, 12, 13, 14, 15, 16, 17, 18, 19, 20, 21, 22, 23, 24, 25, 26, 27, 28, 29, 30, 31, 32, 33] (by decide +kernel) (by decide +kernel)) (goodIn_sub (fun _ h => List.mem_cons_of_mem _ (List.mem_append_right _ h)) (by decide +kernel))
set_option maxRecDepth 20000 in
theorem gX6_isOver_X6_showAt : GoodIn wsX6_isOver (wsV RX6 89 RX6 yX6_showAt wsX6_showAt) := goodIn_app (goodIn_of _ (by decide +kernel)) ggX6_isOver_X6_showAt
theorem dX6_isOver_0 : decode cX6_isOver 0 = .ok (.aload_n 0, 1) := by decide +kernel
theorem dX6_isOver_1 : decode cX6_isOver 1 = .ok (.iload_n 1, 1) := by decide +kernel
theorem dX6_isOver_2 : decode cX6_isOver 2 = .ok (.iconst 2, 1) := by decide +kernel
theorem dX6_isOver_3 : decode cX6_isOver 3 = .ok (.invokevirtual 89, 3) := by decide +kernel
theorem dX6_isOver_6 : decode cX6_isOver 6 = .ok (.aload_n 0, 1) := by decide +kernel
theorem dX6_isOver_7 : decode cX6_isOver 7 = .ok (.getfield 9, 3) := by decide +kernel
theorem dX6_isOver_10 : decode cX6_isOver 10 = .ok (.iconst 0, 1) := by decide +kernel
theorem dX6_isOver_11 : decode cX6_isOver 11 = .ok (.iaload, 1) := by decide +kernel
theorem dX6_isOver_12 : decode cX6_isOver 12 = .ok (.if_icmp .ge 7, 3) := by decide +kernel
theorem dX6_isOver_15 : decode cX6_isOver 15 = .ok (.iconst 1, 1) := by decide +kernel
theorem dX6_isOver_16 : decode cX6_isOver 16 = .ok (.goto 4, 3) := by decide +kernel
theorem dX6_isOver_19 : decode cX6_isOver 19 = .ok (.iconst 0, 1) := by decide +kernel
theorem dX6_isOver_20 : decode cX6_isOver 20 = .ok (.ireturn, 1) := by decide +kernel
set_option maxRecDepth 20000 in
theorem ggX6_shareOn_X6_filmAt : GoodIn wsX6_shareOn wsX6_filmAt := goodIn_ca (goodIn_r _ [5, 6, 7, 8, 9, 10, 11, 12, 13, 14, 15, 16, 17, 18, 19, 20, 21, 22, 23, 24, 25, 26, 27, 28, 29, 30, 31, 32, 33] (by decide +kernel) (by decide +kernel)) (goodIn_sub (fun _ h => List.mem_cons_of_mem _ (List.mem_append_right _ h)) (by decide +kernel))
set_option maxRecDepth 20000 in
theorem gX6_shareOn_X6_filmAt : GoodIn wsX6_shareOn (wsV RX6 81 RX6 yX6_filmAt wsX6_filmAt) := goodIn_app (goodIn_of _ (by decide +kernel)) ggX6_shareOn_X6_filmAt
theorem dX6_shareOn_0 : decode cX6_shareOn 0 = .ok (.aload_n 0, 1) := by decide +kernel
theorem dX6_shareOn_1 : decode cX6_shareOn 1 = .ok (.iload_n 1, 1) := by decide +kernel
theorem dX6_shareOn_2 : decode cX6_shareOn 2 = .ok (.iconst 5, 1) := by decide +kernel
theorem dX6_shareOn_3 : decode cX6_shareOn 3 = .ok (.invokevirtual 81, 3) := by decide +kernel
theorem dX6_shareOn_6 : decode cX6_shareOn 6 = .ok (.aload_n 0, 1) := by decide +kernel
theorem dX6_shareOn_7 : decode cX6_shareOn 7 = .ok (.iload_n 1, 1) := by decide +kernel
theorem dX6_shareOn_8 : decode cX6_shareOn 8 = .ok (.bipush 6, 2) := by decide +kernel
theorem dX6_shareOn_10 : decode cX6_shareOn 10 = .ok (.invokevirtual 81, 3) := by decide +kernel
theorem dX6_shareOn_13 : decode cX6_shareOn 13 = .ok (.iload_n 2, 1) := by decide +kernel
theorem dX6_shareOn_14 : decode cX6_shareOn 14 = .ok (.aload_n 0, 1) := by decide +kernel
theorem dX6_shareOn_15 : decode cX6_shareOn 15 = .ok (.iload_n 1, 1) := by decide +kernel
theorem dX6_shareOn_16 : decode cX6_shareOn 16 = .ok (.iconst 4, 1) := by decide +kernel
theorem dX6_shareOn_17 : decode cX6_shareOn 17 = .ok (.invokevirtual 81, 3) := by decide +kernel
theorem dX6_shareOn_20 : decode cX6_shareOn 20 = .ok (.isub, 1) := by decide +kernel
theorem dX6_shareOn_21 : decode cX6_shareOn 21 = .ok (.bipush 7, 2) := by decide +kernel
theorem dX6_shareOn_23 : decode cX6_shareOn 23 = .ok (.idiv, 1) := by decide +kernel
theorem dX6_shareOn_24 : decode cX6_shareOn 24 = .ok (.imul, 1) := by decide +kernel
theorem dX6_shareOn_25 : decode cX6_shareOn 25 = .ok (.isub, 1) := by decide +kernel
theorem dX6_shareOn_26 : decode cX6_shareOn 26 = .ok (.istore_n 3, 1) := by decide +kernel
theorem dX6_shareOn_27 : decode cX6_shareOn 27 = .ok (.iload_n 3, 1) := by decide +kernel
theorem dX6_shareOn_28 : decode cX6_shareOn 28 = .ok (.aload_n 0, 1) := by decide +kernel
theorem dX6_shareOn_29 : decode cX6_shareOn 29 = .ok (.iload_n 1, 1) := by decide +kernel
theorem dX6_shareOn_30 : decode cX6_shareOn 30 = .ok (.bipush 7, 2) := by decide +kernel
theorem dX6_shareOn_32 : decode cX6_shareOn 32 = .ok (.invokevirtual 81, 3) := by decide +kernel
theorem dX6_shareOn_35 : decode cX6_shareOn 35 = .ok (.if_icmp .ge 13, 3) := by decide +kernel
theorem dX6_shareOn_38 : decode cX6_shareOn 38 = .ok (.aload_n 0, 1) := by decide +kernel
theorem dX6_shareOn_39 : decode cX6_shareOn 39 = .ok (.iload_n 1, 1) := by decide +kernel
theorem dX6_shareOn_40 : decode cX6_shareOn 40 = .ok (.bipush 7, 2) := by decide +kernel
theorem dX6_shareOn_42 : decode cX6_shareOn 42 = .ok (.invokevirtual 81, 3) := by decide +kernel
theorem dX6_shareOn_45 : decode cX6_shareOn 45 = .ok (.goto 4, 3) := by decide +kernel
theorem dX6_shareOn_48 : decode cX6_shareOn 48 = .ok (.iload_n 3, 1) := by decide +kernel
theorem dX6_shareOn_49 : decode cX6_shareOn 49 = .ok (.ireturn, 1) := by decide +kernel
set_option maxRecDepth 20000 in
theorem ggX6_receiptsOf_X6_showAt : GoodIn wsX6_receiptsOf wsX6_showAt := goodIn_ca (goodIn_r _ [5, 6, 7, 8, 9, 10, 11, 12, 13, 14, 15, 16, 17, 18, 19, 20, 21, 22, 23, 24, 25, 26, 27, 28, 29, 30, 31, 32, 33] (by decide +kernel) (by decide +kernel)) (goodIn_sub (fun _ h => List.mem_cons_of_mem _ (List.mem_append_right _ h)) (by decide +kernel))
set_option maxRecDepth 20000 in
theorem gX6_receiptsOf_X6_showAt : GoodIn wsX6_receiptsOf (wsV RX6 89 RX6 yX6_showAt wsX6_showAt) := goodIn_app (goodIn_of _ (by decide +kernel)) ggX6_receiptsOf_X6_showAt
theorem dX6_receiptsOf_0 : decode cX6_receiptsOf 0 = .ok (.aload_n 0, 1) := by decide +kernel
theorem dX6_receiptsOf_1 : decode cX6_receiptsOf 1 = .ok (.iload_n 1, 1) := by decide +kernel
theorem dX6_receiptsOf_2 : decode cX6_receiptsOf 2 = .ok (.bipush 7, 2) := by decide +kernel
theorem dX6_receiptsOf_4 : decode cX6_receiptsOf 4 = .ok (.invokevirtual 89, 3) := by decide +kernel
theorem dX6_receiptsOf_7 : decode cX6_receiptsOf 7 = .ok (.aload_n 0, 1) := by decide +kernel
theorem dX6_receiptsOf_8 : decode cX6_receiptsOf 8 = .ok (.iload_n 1, 1) := by decide +kernel
theorem dX6_receiptsOf_9 : decode cX6_receiptsOf 9 = .ok (.bipush 6, 2) := by decide +kernel
theorem dX6_receiptsOf_11 : decode cX6_receiptsOf 11 = .ok (.invokevirtual 89, 3) := by decide +kernel
theorem dX6_receiptsOf_14 : decode cX6_receiptsOf 14 = .ok (.imul, 1) := by decide +kernel
theorem dX6_receiptsOf_15 : decode cX6_receiptsOf 15 = .ok (.ireturn, 1) := by decide +kernel
set_option maxRecDepth 20000 in
theorem ggX6_partOf_X6_receiptsOf : GoodIn wsX6_partOf wsX6_receiptsOf := goodIn_ca (goodIn_r _ [5, 6, 7, 8, 4, 9, 10, 19, 20, 21, 22, 23, 24, 25, 26, 27, 28, 29, 30, 31, 32, 33, 34, 35, 36, 37, 38, 39, 40, 41, 42, 43, 44, 45] (by decide +kernel) (by decide +kernel)) (goodIn_sub (fun _ h => List.mem_cons_of_mem _ (List.mem_append_right _ h)) (by decide +kernel))
set_option maxRecDepth 20000 in
theorem gX6_partOf_X6_receiptsOf : GoodIn wsX6_partOf (wsV RX6 98 RX6 yX6_receiptsOf wsX6_receiptsOf) := goodIn_app (goodIn_of _ (by decide +kernel)) ggX6_partOf_X6_receiptsOf
set_option maxRecDepth 20000 in
theorem ggX6_partOf_X6_showAt : GoodIn wsX6_partOf wsX6_showAt := goodIn_ca (goodIn_r _ [9, 10, 19, 20, 21, 22, 23, 24, 25, 26, 27, 28, 29, 30, 31, 32, 33, 34, 35, 36, 37, 38, 39, 40, 41, 42, 43, 44, 45] (by decide +kernel) (by decide +kernel)) (goodIn_sub (fun _ h => List.mem_cons_of_mem _ (List.mem_append_right _ h)) (by decide +kernel))
set_option maxRecDepth 20000 in
theorem gX6_partOf_X6_showAt : GoodIn wsX6_partOf (wsV RX6 89 RX6 yX6_showAt wsX6_showAt) := goodIn_app (goodIn_of _ (by decide +kernel)) ggX6_partOf_X6_showAt
set_option maxRecDepth 20000 in
theorem ggX6_partOf_X6_shareOn : GoodIn wsX6_partOf wsX6_shareOn := goodIn_ca (goodIn_r _ [14, 15, 16, 17, 4, 18, 10, 19, 20, 21, 22, 23, 24, 25, 26, 27, 28, 29, 30, 31, 32, 33, 34, 35, 36, 37, 38, 39, 40, 41, 42, 43, 44, 45] (by decide +kernel) (by decide +kernel)) (goodIn_sub (fun _ h => List.mem_cons_of_mem _ (List.mem_append_right _ h)) (by decide +kernel))
set_option maxRecDepth 20000 in
theorem gX6_partOf_X6_shareOn : GoodIn wsX6_partOf (wsV RX6 101 RX6 yX6_shareOn wsX6_shareOn) := goodIn_app (goodIn_of _ (by decide +kernel)) ggX6_partOf_X6_shareOn
theorem dX6_partOf_0 : decode cX6_partOf 0 = .ok (.aload_n 0, 1) := by decide +kernel
theorem dX6_partOf_1 : decode cX6_partOf 1 = .ok (.iload_n 1, 1) := by decide +kernel
theorem dX6_partOf_2 : decode cX6_partOf 2 = .ok (.invokevirtual 98, 3) := by decide +kernel
theorem dX6_partOf_5 : decode cX6_partOf 5 = .ok (.aload_n 0, 1) := by decide +kernel
theorem dX6_partOf_6 : decode cX6_partOf 6 = .ok (.aload_n 0, 1) := by decide +kernel
theorem dX6_partOf_7 : decode cX6_partOf 7 = .ok (.iload_n 1, 1) := by decide +kernel
theorem dX6_partOf_8 : decode cX6_partOf 8 = .ok (.iconst 1, 1) := by decide +kernel
theorem dX6_partOf_9 : decode cX6_partOf 9 = .ok (.invokevirtual 89, 3) := by decide +kernel
theorem dX6_partOf_12 : decode cX6_partOf 12 = .ok (.aload_n 0, 1) := by decide +kernel
theorem dX6_partOf_13 : decode cX6_partOf 13 = .ok (.iload_n 1, 1) := by decide +kernel
theorem dX6_partOf_14 : decode cX6_partOf 14 = .ok (.iconst 2, 1) := by decide +kernel
theorem dX6_partOf_15 : decode cX6_partOf 15 = .ok (.invokevirtual 89, 3) := by decide +kernel
theorem dX6_partOf_18 : decode cX6_partOf 18 = .ok (.invokevirtual 101, 3) := by decide +kernel
theorem dX6_partOf_21 : decode cX6_partOf 21 = .ok (.imul, 1) := by decide +kernel
theorem dX6_partOf_22 : decode cX6_partOf 22 = .ok (.bipush 100, 2) := by decide +kernel
theorem dX6_partOf_24 : decode cX6_partOf 24 = .ok (.idiv, 1) := by decide +kernel
theorem dX6_partOf_25 : decode cX6_partOf 25 = .ok (.ireturn, 1) := by decide +kernel
set_option maxRecDepth 20000 in
theorem ggX6_hall_X6_isHall : GoodIn wsX6_hall wsX6_isHall := goodIn_ca (goodIn_r _ [6, 1, 7, 8, 5, 9, 39, 40, 41, 42, 43, 44, 45, 46, 47, 48, 49, 50, 51, 52, 53, 54, 55, 56, 57, 58, 59, 60, 61, 62, 63, 64, 65] (by decide +kernel) (by decide +kernel)) (goodIn_sub (fun _ h => List.mem_cons_of_mem _ (List.mem_append_right _ h)) (by decide +kernel))
set_option maxRecDepth 20000 in
theorem gX6_hall_X6_isHall : GoodIn wsX6_hall (wsV RX6 104 RX6 yX6_isHall wsX6_isHall) := goodIn_app (goodIn_of _ (by decide +kernel)) ggX6_hall_X6_isHall
set_option maxRecDepth 20000 in
theorem ggX6_hall_X6_fails : GoodIn wsX6_hall wsX6_fails := goodIn_r _ [13, 14, 39, 40, 41, 42, 43, 44, 45, 46, 47, 48, 49, 50, 51, 52, 53, 54, 55, 56, 57, 58, 59, 60, 61, 62, 63, 64, 65] (by decide +kernel) (by decide +kernel)
set_option maxRecDepth 20000 in
theorem gX6_hall_X6_fails : GoodIn wsX6_hall (wsV RX6 45 RX6 yX6_fails wsX6_fails) := goodIn_app (goodIn_of _ (by decide +kernel)) ggX6_hall_X6_fails
set_option maxRecDepth 20000 in
theorem ggX6_hall_X6_in : GoodIn wsX6_hall wsX6_in := goodIn_r _ [9] (by decide +kernel) (by decide +kernel)
set_option maxRecDepth 20000 in
theorem gX6_hall_X6_in : GoodIn wsX6_hall (va_wsS RX6 64 yX6_in wsX6_in) := goodIn_app (goodIn_of _ (by decide +kernel)) ggX6_hall_X6_in
set_option maxRecDepth 20000 in
theorem ggX6_hall_X6_hallAt : GoodIn wsX6_hall wsX6_hallAt := goodIn_ca (goodIn_r _ [18, 1, 39, 40, 41, 42, 43, 44, 45, 46, 47, 48, 49, 50, 51, 52, 53, 54, 55, 56, 57, 58, 59, 60, 61, 62, 63, 64, 65] (by decide +kernel) (by decide +kernel)) (goodIn_sub (fun _ h => List.mem_cons_of_mem _ (List.mem_append_right _ h)) (by decide +kernel))
set_option maxRecDepth 20000 in
theorem gX6_hall_X6_hallAt : GoodIn wsX6_hall (wsV RX6 95 RX6 yX6_hallAt wsX6_hallAt) := goodIn_app (goodIn_of _ (by decide +kernel)) ggX6_hall_X6_hallAt
set_option maxRecDepth 20000 in
theorem ggX6_hall_X6_done : GoodIn wsX6_hall wsX6_done := goodIn_r _ [22, 14, 39, 40, 41, 42, 43, 44, 45, 46, 47, 48, 49, 50, 51, 52, 53, 54, 55, 56, 57, 58, 59, 60, 61, 62, 63, 64, 65] (by decide +kernel) (by decide +kernel)
set_option maxRecDepth 20000 in
theorem gX6_hall_X6_done : GoodIn wsX6_hall (wsV RX6 71 RX6 yX6_done wsX6_done) := goodIn_app (goodIn_of _ (by decide +kernel)) ggX6_hall_X6_done
set_option maxRecDepth 20000 in
theorem ggX6_hall_X6_stands : GoodIn wsX6_hall wsX6_stands := goodIn_ca (goodIn_r _ [26, 27, 28, 29, 5, 30, 1, 39, 40, 41, 42, 43, 44, 45, 46, 47, 48, 49, 50, 51, 52, 53, 54, 55, 56, 57, 58, 59, 60, 61, 62, 63, 64, 65] (by decide +kernel) (by decide +kernel)) (goodIn_sub (fun _ h => List.mem_cons_of_mem _ (List.mem_append_right _ h)) (by decide +kernel))
set_option maxRecDepth 20000 in
theorem gX6_hall_X6_stands : GoodIn wsX6_hall (wsV RX6 107 RX6 yX6_stands wsX6_stands) := goodIn_app (goodIn_of _ (by decide +kernel)) ggX6_hall_X6_stands
set_option maxRecDepth 20000 in
theorem ggX6_hall_X6_showAt : GoodIn wsX6_hall wsX6_showAt := goodIn_ca (goodIn_r _ [30, 1, 39, 40, 41, 42, 43, 44, 45, 46, 47, 48, 49, 50, 51, 52, 53, 54, 55, 56, 57, 58, 59, 60, 61, 62, 63, 64, 65] (by decide +kernel) (by decide +kernel)) (goodIn_sub (fun _ h => List.mem_cons_of_mem _ (List.mem_append_right _ h)) (by decide +kernel))
set_option maxRecDepth 20000 in
theorem gX6_hall_X6_showAt : GoodIn wsX6_hall (wsV RX6 89 RX6 yX6_showAt wsX6_showAt) := goodIn_app (goodIn_of _ (by decide +kernel)) ggX6_hall_X6_showAt
set_option maxRecDepth 20000 in
theorem ggX6_hall_X6_minutesOf : GoodIn wsX6_hall wsX6_minutesOf := goodIn_ca (goodIn_r _ [34, 27, 28, 29, 5, 30, 1, 35, 36, 37, 38, 39, 40, 41, 42, 43, 44, 45, 46, 47, 48, 49, 50, 51, 52, 53, 54, 55, 56, 57, 58, 59, 60, 61, 62, 63, 64, 65] (by decide +kernel) (by decide +kernel)) (goodIn_sub (fun _ h => List.mem_cons_of_mem _ (List.mem_append_right _ h)) (by decide +kernel))
set_option maxRecDepth 20000 in
theorem gX6_hall_X6_minutesOf : GoodIn wsX6_hall (wsV RX6 92 RX6 yX6_minutesOf wsX6_minutesOf) := goodIn_app (goodIn_of _ (by decide +kernel)) ggX6_hall_X6_minutesOf
theorem dX6_hall_0 : decode cX6_hall 0 = .ok (.aload_n 0, 1) := by decide +kernel
theorem dX6_hall_1 : decode cX6_hall 1 = .ok (.iload_n 1, 1) := by decide +kernel
theorem dX6_hall_2 : decode cX6_hall 2 = .ok (.invokevirtual 104, 3) := by decide +kernel
theorem dX6_hall_5 : decode cX6_hall 5 = .ok (.ifCond .ne 9, 3) := by decide +kernel
theorem dX6_hall_8 : decode cX6_hall 8 = .ok (.aload_n 0, 1) := by decide +kernel
theorem dX6_hall_9 : decode cX6_hall 9 = .ok (.iconst 1, 1) := by decide +kernel
theorem dX6_hall_10 : decode cX6_hall 10 = .ok (.invokevirtual 45, 3) := by decide +kernel
theorem dX6_hall_13 : decode cX6_hall 13 = .ok (.ireturn, 1) := by decide +kernel
theorem dX6_hall_14 : decode cX6_hall 14 = .ok (.iload_n 2, 1) := by decide +kernel
theorem dX6_hall_15 : decode cX6_hall 15 = .ok (.iconst 0, 1) := by decide +kernel
theorem dX6_hall_16 : decode cX6_hall 16 = .ok (.bipush 6, 2) := by decide +kernel
theorem dX6_hall_18 : decode cX6_hall 18 = .ok (.invokestatic 64, 3) := by decide +kernel
theorem dX6_hall_21 : decode cX6_hall 21 = .ok (.ifCond .ne 9, 3) := by decide +kernel
theorem dX6_hall_24 : decode cX6_hall 24 = .ok (.aload_n 0, 1) := by decide +kernel
theorem dX6_hall_25 : decode cX6_hall 25 = .ok (.iconst 2, 1) := by decide +kernel
theorem dX6_hall_26 : decode cX6_hall 26 = .ok (.invokevirtual 45, 3) := by decide +kernel
theorem dX6_hall_29 : decode cX6_hall 29 = .ok (.ireturn, 1) := by decide +kernel
theorem dX6_hall_30 : decode cX6_hall 30 = .ok (.iload_n 2, 1) := by decide +kernel
theorem dX6_hall_31 : decode cX6_hall 31 = .ok (.iconst 4, 1) := by decide +kernel
theorem dX6_hall_32 : decode cX6_hall 32 = .ok (.if_icmp .ge 14, 3) := by decide +kernel
theorem dX6_hall_35 : decode cX6_hall 35 = .ok (.aload_n 0, 1) := by decide +kernel
theorem dX6_hall_36 : decode cX6_hall 36 = .ok (.aload_n 0, 1) := by decide +kernel
theorem dX6_hall_37 : decode cX6_hall 37 = .ok (.iload_n 1, 1) := by decide +kernel
theorem dX6_hall_38 : decode cX6_hall 38 = .ok (.iload_n 2, 1) := by decide +kernel
theorem dX6_hall_39 : decode cX6_hall 39 = .ok (.invokevirtual 95, 3) := by decide +kernel
theorem dX6_hall_42 : decode cX6_hall 42 = .ok (.invokevirtual 71, 3) := by decide +kernel
theorem dX6_hall_45 : decode cX6_hall 45 = .ok (.ireturn, 1) := by decide +kernel
theorem dX6_hall_46 : decode cX6_hall 46 = .ok (.iconst 0, 1) := by decide +kernel
theorem dX6_hall_47 : decode cX6_hall 47 = .ok (.istore_n 3, 1) := by decide +kernel
theorem dX6_hall_48 : decode cX6_hall 48 = .ok (.iconst 0, 1) := by decide +kernel
theorem dX6_hall_49 : decode cX6_hall 49 = .ok (.istore 4, 2) := by decide +kernel
theorem dX6_hall_51 : decode cX6_hall 51 = .ok (.iload 4, 2) := by decide +kernel
theorem dX6_hall_53 : decode cX6_hall 53 = .ok (.aload_n 0, 1) := by decide +kernel
theorem dX6_hall_54 : decode cX6_hall 54 = .ok (.getfield 9, 3) := by decide +kernel
theorem dX6_hall_57 : decode cX6_hall 57 = .ok (.iconst 4, 1) := by decide +kernel
theorem dX6_hall_58 : decode cX6_hall 58 = .ok (.iaload, 1) := by decide +kernel
theorem dX6_hall_59 : decode cX6_hall 59 = .ok (.if_icmp .ge 63, 3) := by decide +kernel
theorem dX6_hall_62 : decode cX6_hall 62 = .ok (.aload_n 0, 1) := by decide +kernel
theorem dX6_hall_63 : decode cX6_hall 63 = .ok (.iload 4, 2) := by decide +kernel
theorem dX6_hall_65 : decode cX6_hall 65 = .ok (.invokevirtual 107, 3) := by decide +kernel
theorem dX6_hall_68 : decode cX6_hall 68 = .ok (.ifCond .eq 48, 3) := by decide +kernel
theorem dX6_hall_71 : decode cX6_hall 71 = .ok (.aload_n 0, 1) := by decide +kernel
theorem dX6_hall_72 : decode cX6_hall 72 = .ok (.iload 4, 2) := by decide +kernel
theorem dX6_hall_74 : decode cX6_hall 74 = .ok (.iconst 0, 1) := by decide +kernel
theorem dX6_hall_75 : decode cX6_hall 75 = .ok (.invokevirtual 89, 3) := by decide +kernel
theorem dX6_hall_78 : decode cX6_hall 78 = .ok (.iload_n 1, 1) := by decide +kernel
theorem dX6_hall_79 : decode cX6_hall 79 = .ok (.if_icmp .ne 37, 3) := by decide +kernel
theorem dX6_hall_82 : decode cX6_hall 82 = .ok (.iload_n 3, 1) := by decide +kernel
theorem dX6_hall_83 : decode cX6_hall 83 = .ok (.iload_n 2, 1) := by decide +kernel
theorem dX6_hall_84 : decode cX6_hall 84 = .ok (.iconst 4, 1) := by decide +kernel
theorem dX6_hall_85 : decode cX6_hall 85 = .ok (.if_icmp .ne 7, 3) := by decide +kernel
theorem dX6_hall_88 : decode cX6_hall 88 = .ok (.iconst 1, 1) := by decide +kernel
theorem dX6_hall_89 : decode cX6_hall 89 = .ok (.goto 25, 3) := by decide +kernel
theorem dX6_hall_92 : decode cX6_hall 92 = .ok (.iload_n 2, 1) := by decide +kernel
theorem dX6_hall_93 : decode cX6_hall 93 = .ok (.iconst 5, 1) := by decide +kernel
theorem dX6_hall_94 : decode cX6_hall 94 = .ok (.if_icmp .ne 12, 3) := by decide +kernel
theorem dX6_hall_97 : decode cX6_hall 97 = .ok (.aload_n 0, 1) := by decide +kernel
theorem dX6_hall_98 : decode cX6_hall 98 = .ok (.iload 4, 2) := by decide +kernel
theorem dX6_hall_100 : decode cX6_hall 100 = .ok (.invokevirtual 92, 3) := by decide +kernel
theorem dX6_hall_103 : decode cX6_hall 103 = .ok (.goto 11, 3) := by decide +kernel
theorem dX6_hall_106 : decode cX6_hall 106 = .ok (.aload_n 0, 1) := by decide +kernel
theorem dX6_hall_107 : decode cX6_hall 107 = .ok (.iload 4, 2) := by decide +kernel
theorem dX6_hall_109 : decode cX6_hall 109 = .ok (.bipush 7, 2) := by decide +kernel
theorem dX6_hall_111 : decode cX6_hall 111 = .ok (.invokevirtual 89, 3) := by decide +kernel
theorem dX6_hall_114 : decode cX6_hall 114 = .ok (.iadd, 1) := by decide +kernel
theorem dX6_hall_115 : decode cX6_hall 115 = .ok (.istore_n 3, 1) := by decide +kernel
theorem dX6_hall_116 : decode cX6_hall 116 = .ok (.iinc 4 1, 3) := by decide +kernel
theorem dX6_hall_119 : decode cX6_hall 119 = .ok (.goto (-68), 3) := by decide +kernel
theorem dX6_hall_122 : decode cX6_hall 122 = .ok (.aload_n 0, 1) := by decide +kernel
theorem dX6_hall_123 : decode cX6_hall 123 = .ok (.iload_n 3, 1) := by decide +kernel
theorem dX6_hall_124 : decode cX6_hall 124 = .ok (.invokevirtual 71, 3) := by decide +kernel
theorem dX6_hall_127 : decode cX6_hall 127 = .ok (.ireturn, 1) := by decide +kernel
set_option maxRecDepth 20000 in
theorem ggX6_film_X6_isFilm : GoodIn wsX6_film wsX6_isFilm := goodIn_ca (goodIn_r _ [6, 1, 7, 8, 5, 9, 43, 44, 45, 46, 47, 48, 49, 50, 51, 52, 53, 54, 55, 56, 57, 58, 59, 60, 61, 62, 63, 64, 65, 66, 67, 68, 69] (by decide +kernel) (by decide +kernel)) (goodIn_sub (fun _ h => List.mem_cons_of_mem _ (List.mem_append_right _ h)) (by decide +kernel))
set_option maxRecDepth 20000 in
theorem gX6_film_X6_isFilm : GoodIn wsX6_film (wsV RX6 78 RX6 yX6_isFilm wsX6_isFilm) := goodIn_app (goodIn_of _ (by decide +kernel)) ggX6_film_X6_isFilm
set_option maxRecDepth 20000 in
theorem ggX6_film_X6_fails : GoodIn wsX6_film wsX6_fails := goodIn_r _ [13, 14, 43, 44, 45, 46, 47, 48, 49, 50, 51, 52, 53, 54, 55, 56, 57, 58, 59, 60, 61, 62, 63, 64, 65, 66, 67, 68, 69] (by decide +kernel) (by decide +kernel)
set_option maxRecDepth 20000 in
theorem gX6_film_X6_fails : GoodIn wsX6_film (wsV RX6 45 RX6 yX6_fails wsX6_fails) := goodIn_app (goodIn_of _ (by decide +kernel)) ggX6_film_X6_fails
set_option maxRecDepth 20000 in
theorem ggX6_film_X6_in : GoodIn wsX6_film wsX6_in := goodIn_r _ [9] (by decide +kernel) (by decide +kernel)
set_option maxRecDepth 20000 in
theorem gX6_film_X6_in : GoodIn wsX6_film (va_wsS RX6 64 yX6_in wsX6_in) := goodIn_app (goodIn_of _ (by decide +kernel)) ggX6_film_X6_in
set_option maxRecDepth 20000 in
theorem ggX6_film_X6_filmAt : GoodIn wsX6_film wsX6_filmAt := goodIn_ca (goodIn_r _ [18, 1, 43, 44, 45, 46, 47, 48, 49, 50, 51, 52, 53, 54, 55, 56, 57, 58, 59, 60, 61, 62, 63, 64, 65, 66, 67, 68, 69] (by decide +kernel) (by decide +kernel)) (goodIn_sub (fun _ h => List.mem_cons_of_mem _ (List.mem_append_right _ h)) (by decide +kernel))
set_option maxRecDepth 20000 in
theorem gX6_film_X6_filmAt : GoodIn wsX6_film (wsV RX6 81 RX6 yX6_filmAt wsX6_filmAt) := goodIn_app (goodIn_of _ (by decide +kernel)) ggX6_film_X6_filmAt
set_option maxRecDepth 20000 in
theorem ggX6_film_X6_done : GoodIn wsX6_film wsX6_done := goodIn_r _ [22, 14, 43, 44, 45, 46, 47, 48, 49, 50, 51, 52, 53, 54, 55, 56, 57, 58, 59, 60, 61, 62, 63, 64, 65, 66, 67, 68, 69] (by decide +kernel) (by decide +kernel)
set_option maxRecDepth 20000 in
theorem gX6_film_X6_done : GoodIn wsX6_film (wsV RX6 71 RX6 yX6_done wsX6_done) := goodIn_app (goodIn_of _ (by decide +kernel)) ggX6_film_X6_done
set_option maxRecDepth 20000 in
theorem ggX6_film_X6_stands : GoodIn wsX6_film wsX6_stands := goodIn_ca (goodIn_r _ [26, 27, 28, 29, 5, 30, 1, 43, 44, 45, 46, 47, 48, 49, 50, 51, 52, 53, 54, 55, 56, 57, 58, 59, 60, 61, 62, 63, 64, 65, 66, 67, 68, 69] (by decide +kernel) (by decide +kernel)) (goodIn_sub (fun _ h => List.mem_cons_of_mem _ (List.mem_append_right _ h)) (by decide +kernel))
set_option maxRecDepth 20000 in
theorem gX6_film_X6_stands : GoodIn wsX6_film (wsV RX6 107 RX6 yX6_stands wsX6_stands) := goodIn_app (goodIn_of _ (by decide +kernel)) ggX6_film_X6_stands
set_option maxRecDepth 20000 in
theorem ggX6_film_X6_showAt : GoodIn wsX6_film wsX6_showAt := goodIn_ca (goodIn_r _ [30, 1, 43, 44, 45, 46, 47, 48, 49, 50, 51, 52, 53, 54, 55, 56, 57, 58, 59, 60, 61, 62, 63, 64, 65, 66, 67, 68, 69] (by decide +kernel) (by decide +kernel)) (goodIn_sub (fun _ h => List.mem_cons_of_mem _ (List.mem_append_right _ h)) (by decide +kernel))
set_option maxRecDepth 20000 in
theorem gX6_film_X6_showAt : GoodIn wsX6_film (wsV RX6 89 RX6 yX6_showAt wsX6_showAt) := goodIn_app (goodIn_of _ (by decide +kernel)) ggX6_film_X6_showAt
set_option maxRecDepth 20000 in
theorem ggX6_film_X6_receiptsOf : GoodIn wsX6_film wsX6_receiptsOf := goodIn_ca (goodIn_r _ [34, 27, 28, 29, 5, 30, 1, 43, 44, 45, 46, 47, 48, 49, 50, 51, 52, 53, 54, 55, 56, 57, 58, 59, 60, 61, 62, 63, 64, 65, 66, 67, 68, 69] (by decide +kernel) (by decide +kernel)) (goodIn_sub (fun _ h => List.mem_cons_of_mem _ (List.mem_append_right _ h)) (by decide +kernel))
set_option maxRecDepth 20000 in
theorem gX6_film_X6_receiptsOf : GoodIn wsX6_film (wsV RX6 98 RX6 yX6_receiptsOf wsX6_receiptsOf) := goodIn_app (goodIn_of _ (by decide +kernel)) ggX6_film_X6_receiptsOf
set_option maxRecDepth 20000 in
theorem ggX6_film_X6_partOf : GoodIn wsX6_film wsX6_partOf := goodIn_ca (goodIn_r _ [38, 31, 32, 33, 5, 34, 27, 28, 29, 30, 1, 39, 40, 41, 42, 15, 16, 17, 18, 43, 44, 45, 46, 47, 48, 49, 50, 51, 52, 53, 54, 55, 56, 57, 58, 59, 60, 61, 62, 63, 64, 65, 66, 67, 68, 69] (by decide +kernel) (by decide +kernel)) (goodIn_sub (fun _ h => List.mem_cons_of_mem _ (List.mem_append_right _ h)) (by decide +kernel))
set_option maxRecDepth 20000 in
theorem gX6_film_X6_partOf : GoodIn wsX6_film (wsV RX6 110 RX6 yX6_partOf wsX6_partOf) := goodIn_app (goodIn_of _ (by decide +kernel)) ggX6_film_X6_partOf
theorem dX6_film_0 : decode cX6_film 0 = .ok (.aload_n 0, 1) := by decide +kernel
theorem dX6_film_1 : decode cX6_film 1 = .ok (.iload_n 1, 1) := by decide +kernel
theorem dX6_film_2 : decode cX6_film 2 = .ok (.invokevirtual 78, 3) := by decide +kernel
theorem dX6_film_5 : decode cX6_film 5 = .ok (.ifCond .ne 9, 3) := by decide +kernel
theorem dX6_film_8 : decode cX6_film 8 = .ok (.aload_n 0, 1) := by decide +kernel
theorem dX6_film_9 : decode cX6_film 9 = .ok (.iconst 1, 1) := by decide +kernel
theorem dX6_film_10 : decode cX6_film 10 = .ok (.invokevirtual 45, 3) := by decide +kernel
theorem dX6_film_13 : decode cX6_film 13 = .ok (.ireturn, 1) := by decide +kernel
theorem dX6_film_14 : decode cX6_film 14 = .ok (.iload_n 2, 1) := by decide +kernel
theorem dX6_film_15 : decode cX6_film 15 = .ok (.iconst 0, 1) := by decide +kernel
theorem dX6_film_16 : decode cX6_film 16 = .ok (.bipush 11, 2) := by decide +kernel
theorem dX6_film_18 : decode cX6_film 18 = .ok (.invokestatic 64, 3) := by decide +kernel
theorem dX6_film_21 : decode cX6_film 21 = .ok (.ifCond .ne 9, 3) := by decide +kernel
theorem dX6_film_24 : decode cX6_film 24 = .ok (.aload_n 0, 1) := by decide +kernel
theorem dX6_film_25 : decode cX6_film 25 = .ok (.iconst 2, 1) := by decide +kernel
theorem dX6_film_26 : decode cX6_film 26 = .ok (.invokevirtual 45, 3) := by decide +kernel
theorem dX6_film_29 : decode cX6_film 29 = .ok (.ireturn, 1) := by decide +kernel
theorem dX6_film_30 : decode cX6_film 30 = .ok (.iload_n 2, 1) := by decide +kernel
theorem dX6_film_31 : decode cX6_film 31 = .ok (.iconst 5, 1) := by decide +kernel
theorem dX6_film_32 : decode cX6_film 32 = .ok (.if_icmp .lt 9, 3) := by decide +kernel
theorem dX6_film_35 : decode cX6_film 35 = .ok (.iload_n 2, 1) := by decide +kernel
theorem dX6_film_36 : decode cX6_film 36 = .ok (.bipush 8, 2) := by decide +kernel
theorem dX6_film_38 : decode cX6_film 38 = .ok (.if_icmp .le 28, 3) := by decide +kernel
theorem dX6_film_41 : decode cX6_film 41 = .ok (.aload_n 0, 1) := by decide +kernel
theorem dX6_film_42 : decode cX6_film 42 = .ok (.aload_n 0, 1) := by decide +kernel
theorem dX6_film_43 : decode cX6_film 43 = .ok (.iload_n 1, 1) := by decide +kernel
theorem dX6_film_44 : decode cX6_film 44 = .ok (.iload_n 2, 1) := by decide +kernel
theorem dX6_film_45 : decode cX6_film 45 = .ok (.iconst 5, 1) := by decide +kernel
theorem dX6_film_46 : decode cX6_film 46 = .ok (.if_icmp .ge 7, 3) := by decide +kernel
theorem dX6_film_49 : decode cX6_film 49 = .ok (.iload_n 2, 1) := by decide +kernel
theorem dX6_film_50 : decode cX6_film 50 = .ok (.goto 9, 3) := by decide +kernel
theorem dX6_film_53 : decode cX6_film 53 = .ok (.iconst 5, 1) := by decide +kernel
theorem dX6_film_54 : decode cX6_film 54 = .ok (.iload_n 2, 1) := by decide +kernel
theorem dX6_film_55 : decode cX6_film 55 = .ok (.iadd, 1) := by decide +kernel
theorem dX6_film_56 : decode cX6_film 56 = .ok (.bipush 9, 2) := by decide +kernel
theorem dX6_film_58 : decode cX6_film 58 = .ok (.isub, 1) := by decide +kernel
theorem dX6_film_59 : decode cX6_film 59 = .ok (.invokevirtual 81, 3) := by decide +kernel
theorem dX6_film_62 : decode cX6_film 62 = .ok (.invokevirtual 71, 3) := by decide +kernel
theorem dX6_film_65 : decode cX6_film 65 = .ok (.ireturn, 1) := by decide +kernel
theorem dX6_film_66 : decode cX6_film 66 = .ok (.iconst 0, 1) := by decide +kernel
theorem dX6_film_67 : decode cX6_film 67 = .ok (.istore_n 3, 1) := by decide +kernel
theorem dX6_film_68 : decode cX6_film 68 = .ok (.iconst 0, 1) := by decide +kernel
theorem dX6_film_69 : decode cX6_film 69 = .ok (.istore 4, 2) := by decide +kernel
theorem dX6_film_71 : decode cX6_film 71 = .ok (.iload 4, 2) := by decide +kernel
theorem dX6_film_73 : decode cX6_film 73 = .ok (.aload_n 0, 1) := by decide +kernel
theorem dX6_film_74 : decode cX6_film 74 = .ok (.getfield 9, 3) := by decide +kernel
theorem dX6_film_77 : decode cX6_film 77 = .ok (.iconst 4, 1) := by decide +kernel
theorem dX6_film_78 : decode cX6_film 78 = .ok (.iaload, 1) := by decide +kernel
theorem dX6_film_79 : decode cX6_film 79 = .ok (.if_icmp .ge 79, 3) := by decide +kernel
theorem dX6_film_82 : decode cX6_film 82 = .ok (.aload_n 0, 1) := by decide +kernel
theorem dX6_film_83 : decode cX6_film 83 = .ok (.iload 4, 2) := by decide +kernel
theorem dX6_film_85 : decode cX6_film 85 = .ok (.invokevirtual 107, 3) := by decide +kernel
theorem dX6_film_88 : decode cX6_film 88 = .ok (.ifCond .eq 64, 3) := by decide +kernel
theorem dX6_film_91 : decode cX6_film 91 = .ok (.aload_n 0, 1) := by decide +kernel
theorem dX6_film_92 : decode cX6_film 92 = .ok (.iload 4, 2) := by decide +kernel
theorem dX6_film_94 : decode cX6_film 94 = .ok (.iconst 1, 1) := by decide +kernel
theorem dX6_film_95 : decode cX6_film 95 = .ok (.invokevirtual 89, 3) := by decide +kernel
theorem dX6_film_98 : decode cX6_film 98 = .ok (.iload_n 1, 1) := by decide +kernel
theorem dX6_film_99 : decode cX6_film 99 = .ok (.if_icmp .ne 53, 3) := by decide +kernel
theorem dX6_film_102 : decode cX6_film 102 = .ok (.iload_n 3, 1) := by decide +kernel
theorem dX6_film_103 : decode cX6_film 103 = .ok (.iload_n 2, 1) := by decide +kernel
theorem dX6_film_104 : decode cX6_film 104 = .ok (.iconst 5, 1) := by decide +kernel
theorem dX6_film_105 : decode cX6_film 105 = .ok (.if_icmp .ne 7, 3) := by decide +kernel
theorem dX6_film_108 : decode cX6_film 108 = .ok (.iconst 1, 1) := by decide +kernel
theorem dX6_film_109 : decode cX6_film 109 = .ok (.goto 41, 3) := by decide +kernel
theorem dX6_film_112 : decode cX6_film 112 = .ok (.iload_n 2, 1) := by decide +kernel
theorem dX6_film_113 : decode cX6_film 113 = .ok (.bipush 6, 2) := by decide +kernel
theorem dX6_film_115 : decode cX6_film 115 = .ok (.if_icmp .ne 14, 3) := by decide +kernel
theorem dX6_film_118 : decode cX6_film 118 = .ok (.aload_n 0, 1) := by decide +kernel
theorem dX6_film_119 : decode cX6_film 119 = .ok (.iload 4, 2) := by decide +kernel
theorem dX6_film_121 : decode cX6_film 121 = .ok (.bipush 7, 2) := by decide +kernel
theorem dX6_film_123 : decode cX6_film 123 = .ok (.invokevirtual 89, 3) := by decide +kernel
theorem dX6_film_126 : decode cX6_film 126 = .ok (.goto 24, 3) := by decide +kernel
theorem dX6_film_129 : decode cX6_film 129 = .ok (.iload_n 2, 1) := by decide +kernel
theorem dX6_film_130 : decode cX6_film 130 = .ok (.bipush 7, 2) := by decide +kernel
theorem dX6_film_132 : decode cX6_film 132 = .ok (.if_icmp .ne 12, 3) := by decide +kernel
theorem dX6_film_135 : decode cX6_film 135 = .ok (.aload_n 0, 1) := by decide +kernel
theorem dX6_film_136 : decode cX6_film 136 = .ok (.iload 4, 2) := by decide +kernel
theorem dX6_film_138 : decode cX6_film 138 = .ok (.invokevirtual 98, 3) := by decide +kernel
theorem dX6_film_141 : decode cX6_film 141 = .ok (.goto 9, 3) := by decide +kernel
theorem dX6_film_144 : decode cX6_film 144 = .ok (.aload_n 0, 1) := by decide +kernel
theorem dX6_film_145 : decode cX6_film 145 = .ok (.iload 4, 2) := by decide +kernel
theorem dX6_film_147 : decode cX6_film 147 = .ok (.invokevirtual 110, 3) := by decide +kernel
theorem dX6_film_150 : decode cX6_film 150 = .ok (.iadd, 1) := by decide +kernel
theorem dX6_film_151 : decode cX6_film 151 = .ok (.istore_n 3, 1) := by decide +kernel
theorem dX6_film_152 : decode cX6_film 152 = .ok (.iinc 4 1, 3) := by decide +kernel
theorem dX6_film_155 : decode cX6_film 155 = .ok (.goto (-84), 3) := by decide +kernel
theorem dX6_film_158 : decode cX6_film 158 = .ok (.aload_n 0, 1) := by decide +kernel
theorem dX6_film_159 : decode cX6_film 159 = .ok (.iload_n 3, 1) := by decide +kernel
theorem dX6_film_160 : decode cX6_film 160 = .ok (.invokevirtual 71, 3) := by decide +kernel
theorem dX6_film_163 : decode cX6_film 163 = .ok (.ireturn, 1) := by decide +kernel
set_option maxRecDepth 20000 in
theorem ggX6_share_X6_isFilm : GoodIn wsX6_share wsX6_isFilm := goodIn_ca (goodIn_r _ [5, 6, 7, 8, 4, 9, 30, 31, 32, 33, 34, 35, 36, 37, 38, 39, 40, 41, 42, 43, 44, 45, 46, 47, 48, 49, 50, 51, 52, 53, 54, 55, 56] (by decide +kernel) (by decide +kernel)) (goodIn_sub (fun _ h => List.mem_cons_of_mem _ (List.mem_append_right _ h)) (by decide +kernel))
set_option maxRecDepth 20000 in
theorem gX6_share_X6_isFilm : GoodIn wsX6_share (wsV RX6 78 RX6 yX6_isFilm wsX6_isFilm) := goodIn_app (goodIn_of _ (by decide +kernel)) ggX6_share_X6_isFilm
set_option maxRecDepth 20000 in
theorem ggX6_share_X6_fails : GoodIn wsX6_share wsX6_fails := goodIn_r _ [13, 14, 30, 31, 32, 33, 34, 35, 36, 37, 38, 39, 40, 41, 42, 43, 44, 45, 46, 47, 48, 49, 50, 51, 52, 53, 54, 55, 56] (by decide +kernel) (by decide +kernel)
set_option maxRecDepth 20000 in
theorem gX6_share_X6_fails : GoodIn wsX6_share (wsV RX6 45 RX6 yX6_fails wsX6_fails) := goodIn_app (goodIn_of _ (by decide +kernel)) ggX6_share_X6_fails
set_option maxRecDepth 20000 in
theorem ggX6_share_X6_isDay : GoodIn wsX6_share wsX6_isDay := goodIn_r _ [17, 7, 8, 4, 9] (by decide +kernel) (by decide +kernel)
set_option maxRecDepth 20000 in
theorem gX6_share_X6_isDay : GoodIn wsX6_share (va_wsS RX6 74 yX6_isDay wsX6_isDay) := goodIn_app (goodIn_of _ (by decide +kernel)) ggX6_share_X6_isDay
set_option maxRecDepth 20000 in
theorem ggX6_share_X6_filmAt : GoodIn wsX6_share wsX6_filmAt := goodIn_ca (goodIn_r _ [21, 6, 30, 31, 32, 33, 34, 35, 36, 37, 38, 39, 40, 41, 42, 43, 44, 45, 46, 47, 48, 49, 50, 51, 52, 53, 54, 55, 56] (by decide +kernel) (by decide +kernel)) (goodIn_sub (fun _ h => List.mem_cons_of_mem _ (List.mem_append_right _ h)) (by decide +kernel))
set_option maxRecDepth 20000 in
theorem gX6_share_X6_filmAt : GoodIn wsX6_share (wsV RX6 81 RX6 yX6_filmAt wsX6_filmAt) := goodIn_app (goodIn_of _ (by decide +kernel)) ggX6_share_X6_filmAt
set_option maxRecDepth 20000 in
theorem ggX6_share_X6_shareOn : GoodIn wsX6_share wsX6_shareOn := goodIn_ca (goodIn_r _ [25, 18, 19, 20, 4, 21, 6, 30, 31, 32, 33, 34, 35, 36, 37, 38, 39, 40, 41, 42, 43, 44, 45, 46, 47, 48, 49, 50, 51, 52, 53, 54, 55, 56] (by decide +kernel) (by decide +kernel)) (goodIn_sub (fun _ h => List.mem_cons_of_mem _ (List.mem_append_right _ h)) (by decide +kernel))
set_option maxRecDepth 20000 in
theorem gX6_share_X6_shareOn : GoodIn wsX6_share (wsV RX6 101 RX6 yX6_shareOn wsX6_shareOn) := goodIn_app (goodIn_of _ (by decide +kernel)) ggX6_share_X6_shareOn
set_option maxRecDepth 20000 in
theorem ggX6_share_X6_done : GoodIn wsX6_share wsX6_done := goodIn_r _ [29, 14, 30, 31, 32, 33, 34, 35, 36, 37, 38, 39, 40, 41, 42, 43, 44, 45, 46, 47, 48, 49, 50, 51, 52, 53, 54, 55, 56] (by decide +kernel) (by decide +kernel)
set_option maxRecDepth 20000 in
theorem gX6_share_X6_done : GoodIn wsX6_share (wsV RX6 71 RX6 yX6_done wsX6_done) := goodIn_app (goodIn_of _ (by decide +kernel)) ggX6_share_X6_done
theorem dX6_share_0 : decode cX6_share 0 = .ok (.aload_n 0, 1) := by decide +kernel
theorem dX6_share_1 : decode cX6_share 1 = .ok (.iload_n 1, 1) := by decide +kernel
theorem dX6_share_2 : decode cX6_share 2 = .ok (.invokevirtual 78, 3) := by decide +kernel
theorem dX6_share_5 : decode cX6_share 5 = .ok (.ifCond .ne 9, 3) := by decide +kernel
theorem dX6_share_8 : decode cX6_share 8 = .ok (.aload_n 0, 1) := by decide +kernel
theorem dX6_share_9 : decode cX6_share 9 = .ok (.iconst 1, 1) := by decide +kernel
theorem dX6_share_10 : decode cX6_share 10 = .ok (.invokevirtual 45, 3) := by decide +kernel
theorem dX6_share_13 : decode cX6_share 13 = .ok (.ireturn, 1) := by decide +kernel
theorem dX6_share_14 : decode cX6_share 14 = .ok (.iload_n 2, 1) := by decide +kernel
theorem dX6_share_15 : decode cX6_share 15 = .ok (.invokestatic 74, 3) := by decide +kernel
theorem dX6_share_18 : decode cX6_share 18 = .ok (.ifCond .ne 9, 3) := by decide +kernel
theorem dX6_share_21 : decode cX6_share 21 = .ok (.aload_n 0, 1) := by decide +kernel
theorem dX6_share_22 : decode cX6_share 22 = .ok (.iconst 2, 1) := by decide +kernel
theorem dX6_share_23 : decode cX6_share 23 = .ok (.invokevirtual 45, 3) := by decide +kernel
theorem dX6_share_26 : decode cX6_share 26 = .ok (.ireturn, 1) := by decide +kernel
theorem dX6_share_27 : decode cX6_share 27 = .ok (.iload_n 2, 1) := by decide +kernel
theorem dX6_share_28 : decode cX6_share 28 = .ok (.aload_n 0, 1) := by decide +kernel
theorem dX6_share_29 : decode cX6_share 29 = .ok (.iload_n 1, 1) := by decide +kernel
theorem dX6_share_30 : decode cX6_share 30 = .ok (.iconst 4, 1) := by decide +kernel
theorem dX6_share_31 : decode cX6_share 31 = .ok (.invokevirtual 81, 3) := by decide +kernel
theorem dX6_share_34 : decode cX6_share 34 = .ok (.if_icmp .ge 11, 3) := by decide +kernel
theorem dX6_share_37 : decode cX6_share 37 = .ok (.aload_n 0, 1) := by decide +kernel
theorem dX6_share_38 : decode cX6_share 38 = .ok (.iconst 3, 1) := by decide +kernel
theorem dX6_share_39 : decode cX6_share 39 = .ok (.invokevirtual 45, 3) := by decide +kernel
theorem dX6_share_42 : decode cX6_share 42 = .ok (.goto 13, 3) := by decide +kernel
theorem dX6_share_45 : decode cX6_share 45 = .ok (.aload_n 0, 1) := by decide +kernel
theorem dX6_share_46 : decode cX6_share 46 = .ok (.aload_n 0, 1) := by decide +kernel
theorem dX6_share_47 : decode cX6_share 47 = .ok (.iload_n 1, 1) := by decide +kernel
theorem dX6_share_48 : decode cX6_share 48 = .ok (.iload_n 2, 1) := by decide +kernel
theorem dX6_share_49 : decode cX6_share 49 = .ok (.invokevirtual 101, 3) := by decide +kernel
theorem dX6_share_52 : decode cX6_share 52 = .ok (.invokevirtual 71, 3) := by decide +kernel
theorem dX6_share_55 : decode cX6_share 55 = .ok (.ireturn, 1) := by decide +kernel
set_option maxRecDepth 20000 in
theorem ggX6_trailer_X6_in : GoodIn wsX6_trailer wsX6_in := goodIn_r _ [5] (by decide +kernel) (by decide +kernel)
set_option maxRecDepth 20000 in
theorem gX6_trailer_X6_in : GoodIn wsX6_trailer (va_wsS RX6 64 yX6_in wsX6_in) := goodIn_app (goodIn_of _ (by decide +kernel)) ggX6_trailer_X6_in
set_option maxRecDepth 20000 in
theorem ggX6_trailer_X6_fails : GoodIn wsX6_trailer wsX6_fails := goodIn_r _ [9, 10, 19, 20, 21, 22, 23, 24, 25, 26, 27, 28, 29, 30, 31, 32, 33, 34, 35, 36, 37, 38, 39, 40, 41, 42, 43, 44, 45] (by decide +kernel) (by decide +kernel)
set_option maxRecDepth 20000 in
theorem gX6_trailer_X6_fails : GoodIn wsX6_trailer (wsV RX6 45 RX6 yX6_fails wsX6_fails) := goodIn_app (goodIn_of _ (by decide +kernel)) ggX6_trailer_X6_fails
set_option maxRecDepth 20000 in
theorem ggX6_trailer_X6_trailerAt : GoodIn wsX6_trailer wsX6_trailerAt := goodIn_ca (goodIn_r _ [14, 1, 19, 20, 21, 22, 23, 24, 25, 26, 27, 28, 29, 30, 31, 32, 33, 34, 35, 36, 37, 38, 39, 40, 41, 42, 43, 44, 45] (by decide +kernel) (by decide +kernel)) (goodIn_sub (fun _ h => List.mem_cons_of_mem _ (List.mem_append_right _ h)) (by decide +kernel))
set_option maxRecDepth 20000 in
theorem gX6_trailer_X6_trailerAt : GoodIn wsX6_trailer (wsV RX6 113 RX6 yX6_trailerAt wsX6_trailerAt) := goodIn_app (goodIn_of _ (by decide +kernel)) ggX6_trailer_X6_trailerAt
set_option maxRecDepth 20000 in
theorem ggX6_trailer_X6_done : GoodIn wsX6_trailer wsX6_done := goodIn_r _ [18, 10, 19, 20, 21, 22, 23, 24, 25, 26, 27, 28, 29, 30, 31, 32, 33, 34, 35, 36, 37, 38, 39, 40, 41, 42, 43, 44, 45] (by decide +kernel) (by decide +kernel)
set_option maxRecDepth 20000 in
theorem gX6_trailer_X6_done : GoodIn wsX6_trailer (wsV RX6 71 RX6 yX6_done wsX6_done) := goodIn_app (goodIn_of _ (by decide +kernel)) ggX6_trailer_X6_done
theorem dX6_trailer_0 : decode cX6_trailer 0 = .ok (.iload_n 1, 1) := by decide +kernel
theorem dX6_trailer_1 : decode cX6_trailer 1 = .ok (.iconst 0, 1) := by decide +kernel
theorem dX6_trailer_2 : decode cX6_trailer 2 = .ok (.aload_n 0, 1) := by decide +kernel
theorem dX6_trailer_3 : decode cX6_trailer 3 = .ok (.getfield 9, 3) := by decide +kernel
theorem dX6_trailer_6 : decode cX6_trailer 6 = .ok (.iconst 3, 1) := by decide +kernel
theorem dX6_trailer_7 : decode cX6_trailer 7 = .ok (.iaload, 1) := by decide +kernel
theorem dX6_trailer_8 : decode cX6_trailer 8 = .ok (.iconst 1, 1) := by decide +kernel
theorem dX6_trailer_9 : decode cX6_trailer 9 = .ok (.isub, 1) := by decide +kernel
theorem dX6_trailer_10 : decode cX6_trailer 10 = .ok (.invokestatic 64, 3) := by decide +kernel
theorem dX6_trailer_13 : decode cX6_trailer 13 = .ok (.ifCond .ne 9, 3) := by decide +kernel
theorem dX6_trailer_16 : decode cX6_trailer 16 = .ok (.aload_n 0, 1) := by decide +kernel
theorem dX6_trailer_17 : decode cX6_trailer 17 = .ok (.iconst 1, 1) := by decide +kernel
theorem dX6_trailer_18 : decode cX6_trailer 18 = .ok (.invokevirtual 45, 3) := by decide +kernel
theorem dX6_trailer_21 : decode cX6_trailer 21 = .ok (.ireturn, 1) := by decide +kernel
theorem dX6_trailer_22 : decode cX6_trailer 22 = .ok (.iload_n 2, 1) := by decide +kernel
theorem dX6_trailer_23 : decode cX6_trailer 23 = .ok (.iconst 0, 1) := by decide +kernel
theorem dX6_trailer_24 : decode cX6_trailer 24 = .ok (.iconst 3, 1) := by decide +kernel
theorem dX6_trailer_25 : decode cX6_trailer 25 = .ok (.invokestatic 64, 3) := by decide +kernel
theorem dX6_trailer_28 : decode cX6_trailer 28 = .ok (.ifCond .eq 16, 3) := by decide +kernel
theorem dX6_trailer_31 : decode cX6_trailer 31 = .ok (.aload_n 0, 1) := by decide +kernel
theorem dX6_trailer_32 : decode cX6_trailer 32 = .ok (.aload_n 0, 1) := by decide +kernel
theorem dX6_trailer_33 : decode cX6_trailer 33 = .ok (.iload_n 1, 1) := by decide +kernel
theorem dX6_trailer_34 : decode cX6_trailer 34 = .ok (.iload_n 2, 1) := by decide +kernel
theorem dX6_trailer_35 : decode cX6_trailer 35 = .ok (.invokevirtual 113, 3) := by decide +kernel
theorem dX6_trailer_38 : decode cX6_trailer 38 = .ok (.invokevirtual 71, 3) := by decide +kernel
theorem dX6_trailer_41 : decode cX6_trailer 41 = .ok (.goto 8, 3) := by decide +kernel
theorem dX6_trailer_44 : decode cX6_trailer 44 = .ok (.aload_n 0, 1) := by decide +kernel
theorem dX6_trailer_45 : decode cX6_trailer 45 = .ok (.iconst 2, 1) := by decide +kernel
theorem dX6_trailer_46 : decode cX6_trailer 46 = .ok (.invokevirtual 45, 3) := by decide +kernel
theorem dX6_trailer_49 : decode cX6_trailer 49 = .ok (.ireturn, 1) := by decide +kernel
set_option maxRecDepth 20000 in
theorem ggX6_doesFit_X6_trailerAt : GoodIn wsX6_doesFit wsX6_trailerAt := goodIn_ca (goodIn_r _ [5, 6, 11, 12, 13, 14, 15, 16, 17, 18, 19, 20, 21, 22, 23, 24, 25, 26, 27, 28, 29, 30, 31, 32, 33, 34, 35, 36, 37] (by decide +kernel) (by decide +kernel)) (goodIn_sub (fun _ h => List.mem_cons_of_mem _ (List.mem_append_right _ h)) (by decide +kernel))
set_option maxRecDepth 20000 in
theorem gX6_doesFit_X6_trailerAt : GoodIn wsX6_doesFit (wsV RX6 113 RX6 yX6_trailerAt wsX6_trailerAt) := goodIn_app (goodIn_of _ (by decide +kernel)) ggX6_doesFit_X6_trailerAt
set_option maxRecDepth 20000 in
theorem ggX6_doesFit_X6_filmAt : GoodIn wsX6_doesFit wsX6_filmAt := goodIn_ca (goodIn_r _ [10, 6, 11, 12, 13, 14, 15, 16, 17, 18, 19, 20, 21, 22, 23, 24, 25, 26, 27, 28, 29, 30, 31, 32, 33, 34, 35, 36, 37] (by decide +kernel) (by decide +kernel)) (goodIn_sub (fun _ h => List.mem_cons_of_mem _ (List.mem_append_right _ h)) (by decide +kernel))
set_option maxRecDepth 20000 in
theorem gX6_doesFit_X6_filmAt : GoodIn wsX6_doesFit (wsV RX6 81 RX6 yX6_filmAt wsX6_filmAt) := goodIn_app (goodIn_of _ (by decide +kernel)) ggX6_doesFit_X6_filmAt
theorem dX6_doesFit_0 : decode cX6_doesFit 0 = .ok (.aload_n 0, 1) := by decide +kernel
theorem dX6_doesFit_1 : decode cX6_doesFit 1 = .ok (.iload_n 1, 1) := by decide +kernel
theorem dX6_doesFit_2 : decode cX6_doesFit 2 = .ok (.iconst 0, 1) := by decide +kernel
theorem dX6_doesFit_3 : decode cX6_doesFit 3 = .ok (.invokevirtual 113, 3) := by decide +kernel
theorem dX6_doesFit_6 : decode cX6_doesFit 6 = .ok (.istore 4, 2) := by decide +kernel
theorem dX6_doesFit_8 : decode cX6_doesFit 8 = .ok (.iload 4, 2) := by decide +kernel
theorem dX6_doesFit_10 : decode cX6_doesFit 10 = .ok (.iload_n 2, 1) := by decide +kernel
theorem dX6_doesFit_11 : decode cX6_doesFit 11 = .ok (.if_icmp .eq 49, 3) := by decide +kernel
theorem dX6_doesFit_14 : decode cX6_doesFit 14 = .ok (.aload_n 0, 1) := by decide +kernel
theorem dX6_doesFit_15 : decode cX6_doesFit 15 = .ok (.iload 4, 2) := by decide +kernel
theorem dX6_doesFit_17 : decode cX6_doesFit 17 = .ok (.iconst 4, 1) := by decide +kernel
theorem dX6_doesFit_18 : decode cX6_doesFit 18 = .ok (.invokevirtual 81, 3) := by decide +kernel
theorem dX6_doesFit_21 : decode cX6_doesFit 21 = .ok (.iload_n 3, 1) := by decide +kernel
theorem dX6_doesFit_22 : decode cX6_doesFit 22 = .ok (.if_icmp .le 38, 3) := by decide +kernel
theorem dX6_doesFit_25 : decode cX6_doesFit 25 = .ok (.aload_n 0, 1) := by decide +kernel
theorem dX6_doesFit_26 : decode cX6_doesFit 26 = .ok (.iload_n 1, 1) := by decide +kernel
theorem dX6_doesFit_27 : decode cX6_doesFit 27 = .ok (.iconst 2, 1) := by decide +kernel
theorem dX6_doesFit_28 : decode cX6_doesFit 28 = .ok (.invokevirtual 113, 3) := by decide +kernel
theorem dX6_doesFit_31 : decode cX6_doesFit 31 = .ok (.aload_n 0, 1) := by decide +kernel
theorem dX6_doesFit_32 : decode cX6_doesFit 32 = .ok (.iload_n 2, 1) := by decide +kernel
theorem dX6_doesFit_33 : decode cX6_doesFit 33 = .ok (.iconst 1, 1) := by decide +kernel
theorem dX6_doesFit_34 : decode cX6_doesFit 34 = .ok (.invokevirtual 81, 3) := by decide +kernel
theorem dX6_doesFit_37 : decode cX6_doesFit 37 = .ok (.if_icmp .gt 23, 3) := by decide +kernel
theorem dX6_doesFit_40 : decode cX6_doesFit 40 = .ok (.aload_n 0, 1) := by decide +kernel
theorem dX6_doesFit_41 : decode cX6_doesFit 41 = .ok (.iload_n 1, 1) := by decide +kernel
theorem dX6_doesFit_42 : decode cX6_doesFit 42 = .ok (.iconst 3, 1) := by decide +kernel
theorem dX6_doesFit_43 : decode cX6_doesFit 43 = .ok (.invokevirtual 113, 3) := by decide +kernel
theorem dX6_doesFit_46 : decode cX6_doesFit 46 = .ok (.aload_n 0, 1) := by decide +kernel
theorem dX6_doesFit_47 : decode cX6_doesFit 47 = .ok (.iload_n 2, 1) := by decide +kernel
theorem dX6_doesFit_48 : decode cX6_doesFit 48 = .ok (.iconst 2, 1) := by decide +kernel
theorem dX6_doesFit_49 : decode cX6_doesFit 49 = .ok (.invokevirtual 81, 3) := by decide +kernel
theorem dX6_doesFit_52 : decode cX6_doesFit 52 = .ok (.iand, 1) := by decide +kernel
theorem dX6_doesFit_53 : decode cX6_doesFit 53 = .ok (.ifCond .eq 7, 3) := by decide +kernel
theorem dX6_doesFit_56 : decode cX6_doesFit 56 = .ok (.iconst 1, 1) := by decide +kernel
theorem dX6_doesFit_57 : decode cX6_doesFit 57 = .ok (.goto 4, 3) := by decide +kernel
theorem dX6_doesFit_60 : decode cX6_doesFit 60 = .ok (.iconst 0, 1) := by decide +kernel
theorem dX6_doesFit_61 : decode cX6_doesFit 61 = .ok (.ireturn, 1) := by decide +kernel
set_option maxRecDepth 20000 in
theorem ggX6_fits_X6_in : GoodIn wsX6_fits wsX6_in := goodIn_r _ [6] (by decide +kernel) (by decide +kernel)
set_option maxRecDepth 20000 in
theorem gX6_fits_X6_in : GoodIn wsX6_fits (va_wsS RX6 64 yX6_in wsX6_in) := goodIn_app (goodIn_of _ (by decide +kernel)) ggX6_fits_X6_in
set_option maxRecDepth 20000 in
theorem ggX6_fits_X6_isFilm : GoodIn wsX6_fits wsX6_isFilm := goodIn_ca (goodIn_r _ [10, 1, 3, 4, 5, 6, 30, 31, 32, 33, 34, 35, 36, 37, 38, 39, 40, 41, 42, 43, 44, 45, 46, 47, 48, 49, 50, 51, 52, 53, 54, 55, 56] (by decide +kernel) (by decide +kernel)) (goodIn_sub (fun _ h => List.mem_cons_of_mem _ (List.mem_append_right _ h)) (by decide +kernel))
set_option maxRecDepth 20000 in
theorem gX6_fits_X6_isFilm : GoodIn wsX6_fits (wsV RX6 78 RX6 yX6_isFilm wsX6_isFilm) := goodIn_app (goodIn_of _ (by decide +kernel)) ggX6_fits_X6_isFilm
set_option maxRecDepth 20000 in
theorem ggX6_fits_X6_fails : GoodIn wsX6_fits wsX6_fails := goodIn_r _ [14, 2, 30, 31, 32, 33, 34, 35, 36, 37, 38, 39, 40, 41, 42, 43, 44, 45, 46, 47, 48, 49, 50, 51, 52, 53, 54, 55, 56] (by decide +kernel) (by decide +kernel)
set_option maxRecDepth 20000 in
theorem gX6_fits_X6_fails : GoodIn wsX6_fits (wsV RX6 45 RX6 yX6_fails wsX6_fails) := goodIn_app (goodIn_of _ (by decide +kernel)) ggX6_fits_X6_fails
set_option maxRecDepth 20000 in
theorem ggX6_fits_X6_isDay : GoodIn wsX6_fits wsX6_isDay := goodIn_r _ [17, 3, 4, 5, 6] (by decide +kernel) (by decide +kernel)
set_option maxRecDepth 20000 in
theorem gX6_fits_X6_isDay : GoodIn wsX6_fits (va_wsS RX6 74 yX6_isDay wsX6_isDay) := goodIn_app (goodIn_of _ (by decide +kernel)) ggX6_fits_X6_isDay
set_option maxRecDepth 20000 in
theorem ggX6_fits_X6_doesFit : GoodIn wsX6_fits wsX6_doesFit := goodIn_ca (goodIn_r _ [21, 22, 23, 24, 5, 25, 1, 26, 27, 28, 29, 30, 31, 32, 33, 34, 35, 36, 37, 38, 39, 40, 41, 42, 43, 44, 45, 46, 47, 48, 49, 50, 51, 52, 53, 54, 55, 56] (by decide +kernel) (by decide +kernel)) (goodIn_sub (fun _ h => List.mem_cons_of_mem _ (List.mem_append_right _ h)) (by decide +kernel))
set_option maxRecDepth 20000 in
theorem gX6_fits_X6_doesFit : GoodIn wsX6_fits (wsV RX6 116 RX6 yX6_doesFit wsX6_doesFit) := goodIn_app (goodIn_of _ (by decide +kernel)) ggX6_fits_X6_doesFit
theorem dX6_fits_0 : decode cX6_fits 0 = .ok (.iload_n 1, 1) := by decide +kernel
theorem dX6_fits_1 : decode cX6_fits 1 = .ok (.iconst 0, 1) := by decide +kernel
theorem dX6_fits_2 : decode cX6_fits 2 = .ok (.aload_n 0, 1) := by decide +kernel
theorem dX6_fits_3 : decode cX6_fits 3 = .ok (.getfield 9, 3) := by decide +kernel
theorem dX6_fits_6 : decode cX6_fits 6 = .ok (.iconst 3, 1) := by decide +kernel
theorem dX6_fits_7 : decode cX6_fits 7 = .ok (.iaload, 1) := by decide +kernel
theorem dX6_fits_8 : decode cX6_fits 8 = .ok (.iconst 1, 1) := by decide +kernel
theorem dX6_fits_9 : decode cX6_fits 9 = .ok (.isub, 1) := by decide +kernel
theorem dX6_fits_10 : decode cX6_fits 10 = .ok (.invokestatic 64, 3) := by decide +kernel
theorem dX6_fits_13 : decode cX6_fits 13 = .ok (.ifCond .eq 11, 3) := by decide +kernel
theorem dX6_fits_16 : decode cX6_fits 16 = .ok (.aload_n 0, 1) := by decide +kernel
theorem dX6_fits_17 : decode cX6_fits 17 = .ok (.iload_n 2, 1) := by decide +kernel
theorem dX6_fits_18 : decode cX6_fits 18 = .ok (.invokevirtual 78, 3) := by decide +kernel
theorem dX6_fits_21 : decode cX6_fits 21 = .ok (.ifCond .ne 17, 3) := by decide +kernel
theorem dX6_fits_24 : decode cX6_fits 24 = .ok (.aload_n 0, 1) := by decide +kernel
theorem dX6_fits_25 : decode cX6_fits 25 = .ok (.iconst 1, 1) := by decide +kernel
theorem dX6_fits_26 : decode cX6_fits 26 = .ok (.invokevirtual 45, 3) := by decide +kernel
theorem dX6_fits_29 : decode cX6_fits 29 = .ok (.ifCond .le 7, 3) := by decide +kernel
theorem dX6_fits_32 : decode cX6_fits 32 = .ok (.iconst 1, 1) := by decide +kernel
theorem dX6_fits_33 : decode cX6_fits 33 = .ok (.goto 4, 3) := by decide +kernel
theorem dX6_fits_36 : decode cX6_fits 36 = .ok (.iconst 0, 1) := by decide +kernel
theorem dX6_fits_37 : decode cX6_fits 37 = .ok (.ireturn, 1) := by decide +kernel
theorem dX6_fits_38 : decode cX6_fits 38 = .ok (.iload_n 3, 1) := by decide +kernel
theorem dX6_fits_39 : decode cX6_fits 39 = .ok (.invokestatic 74, 3) := by decide +kernel
theorem dX6_fits_42 : decode cX6_fits 42 = .ok (.ifCond .ne 17, 3) := by decide +kernel
theorem dX6_fits_45 : decode cX6_fits 45 = .ok (.aload_n 0, 1) := by decide +kernel
theorem dX6_fits_46 : decode cX6_fits 46 = .ok (.iconst 2, 1) := by decide +kernel
theorem dX6_fits_47 : decode cX6_fits 47 = .ok (.invokevirtual 45, 3) := by decide +kernel
theorem dX6_fits_50 : decode cX6_fits 50 = .ok (.ifCond .le 7, 3) := by decide +kernel
theorem dX6_fits_53 : decode cX6_fits 53 = .ok (.iconst 1, 1) := by decide +kernel
theorem dX6_fits_54 : decode cX6_fits 54 = .ok (.goto 4, 3) := by decide +kernel
theorem dX6_fits_57 : decode cX6_fits 57 = .ok (.iconst 0, 1) := by decide +kernel
theorem dX6_fits_58 : decode cX6_fits 58 = .ok (.ireturn, 1) := by decide +kernel
theorem dX6_fits_59 : decode cX6_fits 59 = .ok (.aload_n 0, 1) := by decide +kernel
theorem dX6_fits_60 : decode cX6_fits 60 = .ok (.iconst 0, 1) := by decide +kernel
theorem dX6_fits_61 : decode cX6_fits 61 = .ok (.putfield 36, 3) := by decide +kernel
theorem dX6_fits_64 : decode cX6_fits 64 = .ok (.aload_n 0, 1) := by decide +kernel
theorem dX6_fits_65 : decode cX6_fits 65 = .ok (.iload_n 1, 1) := by decide +kernel
theorem dX6_fits_66 : decode cX6_fits 66 = .ok (.iload_n 2, 1) := by decide +kernel
theorem dX6_fits_67 : decode cX6_fits 67 = .ok (.iload_n 3, 1) := by decide +kernel
theorem dX6_fits_68 : decode cX6_fits 68 = .ok (.invokevirtual 116, 3) := by decide +kernel
theorem dX6_fits_71 : decode cX6_fits 71 = .ok (.ireturn, 1) := by decide +kernel
set_option maxRecDepth 20000 in
theorem ggX6_lengthOf_X6_trailerAt : GoodIn wsX6_lengthOf wsX6_trailerAt := goodIn_ca (goodIn_r _ [6, 1, 7, 8, 9, 10, 11, 12, 13, 14, 15, 16, 17, 18, 19, 20, 21, 22, 23, 24, 25, 26, 27, 28, 29, 30, 31, 32, 33] (by decide +kernel) (by decide +kernel)) (goodIn_sub (fun _ h => List.mem_cons_of_mem _ (List.mem_append_right _ h)) (by decide +kernel))
set_option maxRecDepth 20000 in
theorem gX6_lengthOf_X6_trailerAt : GoodIn wsX6_lengthOf (wsV RX6 113 RX6 yX6_trailerAt wsX6_trailerAt) := goodIn_app (goodIn_of _ (by decide +kernel)) ggX6_lengthOf_X6_trailerAt
theorem dX6_lengthOf_0 : decode cX6_lengthOf 0 = .ok (.iconst 0, 1) := by decide +kernel
theorem dX6_lengthOf_1 : decode cX6_lengthOf 1 = .ok (.istore_n 2, 1) := by decide +kernel
theorem dX6_lengthOf_2 : decode cX6_lengthOf 2 = .ok (.iconst 0, 1) := by decide +kernel
theorem dX6_lengthOf_3 : decode cX6_lengthOf 3 = .ok (.istore_n 3, 1) := by decide +kernel
theorem dX6_lengthOf_4 : decode cX6_lengthOf 4 = .ok (.iload_n 3, 1) := by decide +kernel
theorem dX6_lengthOf_5 : decode cX6_lengthOf 5 = .ok (.aload_n 0, 1) := by decide +kernel
theorem dX6_lengthOf_6 : decode cX6_lengthOf 6 = .ok (.getfield 9, 3) := by decide +kernel
theorem dX6_lengthOf_9 : decode cX6_lengthOf 9 = .ok (.iconst 3, 1) := by decide +kernel
theorem dX6_lengthOf_10 : decode cX6_lengthOf 10 = .ok (.iaload, 1) := by decide +kernel
theorem dX6_lengthOf_11 : decode cX6_lengthOf 11 = .ok (.if_icmp .ge 31, 3) := by decide +kernel
theorem dX6_lengthOf_14 : decode cX6_lengthOf 14 = .ok (.iload_n 2, 1) := by decide +kernel
theorem dX6_lengthOf_15 : decode cX6_lengthOf 15 = .ok (.iload_n 1, 1) := by decide +kernel
theorem dX6_lengthOf_16 : decode cX6_lengthOf 16 = .ok (.iload_n 3, 1) := by decide +kernel
theorem dX6_lengthOf_17 : decode cX6_lengthOf 17 = .ok (.ishr, 1) := by decide +kernel
theorem dX6_lengthOf_18 : decode cX6_lengthOf 18 = .ok (.iconst 1, 1) := by decide +kernel
theorem dX6_lengthOf_19 : decode cX6_lengthOf 19 = .ok (.iand, 1) := by decide +kernel
theorem dX6_lengthOf_20 : decode cX6_lengthOf 20 = .ok (.iconst 1, 1) := by decide +kernel
theorem dX6_lengthOf_21 : decode cX6_lengthOf 21 = .ok (.if_icmp .ne 12, 3) := by decide +kernel
theorem dX6_lengthOf_24 : decode cX6_lengthOf 24 = .ok (.aload_n 0, 1) := by decide +kernel
theorem dX6_lengthOf_25 : decode cX6_lengthOf 25 = .ok (.iload_n 3, 1) := by decide +kernel
theorem dX6_lengthOf_26 : decode cX6_lengthOf 26 = .ok (.iconst 1, 1) := by decide +kernel
theorem dX6_lengthOf_27 : decode cX6_lengthOf 27 = .ok (.invokevirtual 113, 3) := by decide +kernel
theorem dX6_lengthOf_30 : decode cX6_lengthOf 30 = .ok (.goto 4, 3) := by decide +kernel
theorem dX6_lengthOf_33 : decode cX6_lengthOf 33 = .ok (.iconst 0, 1) := by decide +kernel
theorem dX6_lengthOf_34 : decode cX6_lengthOf 34 = .ok (.iadd, 1) := by decide +kernel
theorem dX6_lengthOf_35 : decode cX6_lengthOf 35 = .ok (.istore_n 2, 1) := by decide +kernel
theorem dX6_lengthOf_36 : decode cX6_lengthOf 36 = .ok (.iinc 3 1, 3) := by decide +kernel
theorem dX6_lengthOf_39 : decode cX6_lengthOf 39 = .ok (.goto (-35), 3) := by decide +kernel
theorem dX6_lengthOf_42 : decode cX6_lengthOf 42 = .ok (.iload_n 2, 1) := by decide +kernel
theorem dX6_lengthOf_43 : decode cX6_lengthOf 43 = .ok (.ireturn, 1) := by decide +kernel
set_option maxRecDepth 20000 in
theorem ggX6_isBetter_X6_lengthOf : GoodIn wsX6_isBetter wsX6_lengthOf := goodIn_ca (goodIn_r _ [5, 6, 7, 8, 9, 4, 10, 18, 19, 20, 21, 22, 23, 24, 25, 26, 27, 28, 29, 30, 31, 32, 33, 34, 35, 36, 37, 38, 39, 40, 41, 42, 43, 44] (by decide +kernel) (by decide +kernel)) (goodIn_sub (fun _ h => List.mem_cons_of_mem _ (List.mem_append_right _ h)) (by decide +kernel))
set_option maxRecDepth 20000 in
theorem gX6_isBetter_X6_lengthOf : GoodIn wsX6_isBetter (wsV RX6 119 RX6 yX6_lengthOf wsX6_lengthOf) := goodIn_app (goodIn_of _ (by decide +kernel)) ggX6_isBetter_X6_lengthOf
set_option maxRecDepth 20000 in
theorem ggX6_isBetter_J6_bitCount_0f7a4 : GoodIn wsX6_isBetter wsJ6_bitCount_0f7a4 := goodIn_r _ [14, 15, 16, 17] (by decide +kernel) (by decide +kernel)
set_option maxRecDepth 20000 in
theorem gX6_isBetter_J6_bitCount_0f7a4 : GoodIn wsX6_isBetter (va_wsS RX6 122 yJ6_bitCount_0f7a4 wsJ6_bitCount_0f7a4) := goodIn_app (goodIn_of _ (by decide +kernel)) ggX6_isBetter_J6_bitCount_0f7a4
theorem dX6_isBetter_0 : decode cX6_isBetter 0 = .ok (.aload_n 0, 1) := by decide +kernel
theorem dX6_isBetter_1 : decode cX6_isBetter 1 = .ok (.iload_n 1, 1) := by decide +kernel
theorem dX6_isBetter_2 : decode cX6_isBetter 2 = .ok (.invokevirtual 119, 3) := by decide +kernel
theorem dX6_isBetter_5 : decode cX6_isBetter 5 = .ok (.aload_n 0, 1) := by decide +kernel
theorem dX6_isBetter_6 : decode cX6_isBetter 6 = .ok (.iload_n 2, 1) := by decide +kernel
theorem dX6_isBetter_7 : decode cX6_isBetter 7 = .ok (.invokevirtual 119, 3) := by decide +kernel
theorem dX6_isBetter_10 : decode cX6_isBetter 10 = .ok (.if_icmp .eq 22, 3) := by decide +kernel
theorem dX6_isBetter_13 : decode cX6_isBetter 13 = .ok (.aload_n 0, 1) := by decide +kernel
theorem dX6_isBetter_14 : decode cX6_isBetter 14 = .ok (.iload_n 1, 1) := by decide +kernel
theorem dX6_isBetter_15 : decode cX6_isBetter 15 = .ok (.invokevirtual 119, 3) := by decide +kernel
theorem dX6_isBetter_18 : decode cX6_isBetter 18 = .ok (.aload_n 0, 1) := by decide +kernel
theorem dX6_isBetter_19 : decode cX6_isBetter 19 = .ok (.iload_n 2, 1) := by decide +kernel
theorem dX6_isBetter_20 : decode cX6_isBetter 20 = .ok (.invokevirtual 119, 3) := by decide +kernel
theorem dX6_isBetter_23 : decode cX6_isBetter 23 = .ok (.if_icmp .le 7, 3) := by decide +kernel
theorem dX6_isBetter_26 : decode cX6_isBetter 26 = .ok (.iconst 1, 1) := by decide +kernel
theorem dX6_isBetter_27 : decode cX6_isBetter 27 = .ok (.goto 4, 3) := by decide +kernel
theorem dX6_isBetter_30 : decode cX6_isBetter 30 = .ok (.iconst 0, 1) := by decide +kernel
theorem dX6_isBetter_31 : decode cX6_isBetter 31 = .ok (.ireturn, 1) := by decide +kernel
theorem dX6_isBetter_32 : decode cX6_isBetter 32 = .ok (.iload_n 1, 1) := by decide +kernel
theorem dX6_isBetter_33 : decode cX6_isBetter 33 = .ok (.invokestatic 122, 3) := by decide +kernel
theorem dX6_isBetter_36 : decode cX6_isBetter 36 = .ok (.istore_n 3, 1) := by decide +kernel
theorem dX6_isBetter_37 : decode cX6_isBetter 37 = .ok (.iload_n 2, 1) := by decide +kernel
theorem dX6_isBetter_38 : decode cX6_isBetter 38 = .ok (.invokestatic 122, 3) := by decide +kernel
theorem dX6_isBetter_41 : decode cX6_isBetter 41 = .ok (.istore 4, 2) := by decide +kernel
theorem dX6_isBetter_43 : decode cX6_isBetter 43 = .ok (.iload_n 1, 1) := by decide +kernel
theorem dX6_isBetter_44 : decode cX6_isBetter 44 = .ok (.iload_n 2, 1) := by decide +kernel
theorem dX6_isBetter_45 : decode cX6_isBetter 45 = .ok (.ixor, 1) := by decide +kernel
theorem dX6_isBetter_46 : decode cX6_isBetter 46 = .ok (.istore 5, 2) := by decide +kernel
theorem dX6_isBetter_48 : decode cX6_isBetter 48 = .ok (.iload_n 3, 1) := by decide +kernel
theorem dX6_isBetter_49 : decode cX6_isBetter 49 = .ok (.iload 4, 2) := by decide +kernel
theorem dX6_isBetter_51 : decode cX6_isBetter 51 = .ok (.if_icmp .eq 17, 3) := by decide +kernel
theorem dX6_isBetter_54 : decode cX6_isBetter 54 = .ok (.iload_n 3, 1) := by decide +kernel
theorem dX6_isBetter_55 : decode cX6_isBetter 55 = .ok (.iload 4, 2) := by decide +kernel
theorem dX6_isBetter_57 : decode cX6_isBetter 57 = .ok (.if_icmp .ge 7, 3) := by decide +kernel
theorem dX6_isBetter_60 : decode cX6_isBetter 60 = .ok (.iconst 1, 1) := by decide +kernel
theorem dX6_isBetter_61 : decode cX6_isBetter 61 = .ok (.goto 23, 3) := by decide +kernel
theorem dX6_isBetter_64 : decode cX6_isBetter 64 = .ok (.iconst 0, 1) := by decide +kernel
theorem dX6_isBetter_65 : decode cX6_isBetter 65 = .ok (.goto 19, 3) := by decide +kernel
theorem dX6_isBetter_68 : decode cX6_isBetter 68 = .ok (.iload_n 1, 1) := by decide +kernel
theorem dX6_isBetter_69 : decode cX6_isBetter 69 = .ok (.iload 5, 2) := by decide +kernel
theorem dX6_isBetter_71 : decode cX6_isBetter 71 = .ok (.iand, 1) := by decide +kernel
theorem dX6_isBetter_72 : decode cX6_isBetter 72 = .ok (.iload 5, 2) := by decide +kernel
theorem dX6_isBetter_74 : decode cX6_isBetter 74 = .ok (.ineg, 1) := by decide +kernel
theorem dX6_isBetter_75 : decode cX6_isBetter 75 = .ok (.iand, 1) := by decide +kernel
theorem dX6_isBetter_76 : decode cX6_isBetter 76 = .ok (.ifCond .eq 7, 3) := by decide +kernel
theorem dX6_isBetter_79 : decode cX6_isBetter 79 = .ok (.iconst 1, 1) := by decide +kernel
theorem dX6_isBetter_80 : decode cX6_isBetter 80 = .ok (.goto 4, 3) := by decide +kernel
theorem dX6_isBetter_83 : decode cX6_isBetter 83 = .ok (.iconst 0, 1) := by decide +kernel
theorem dX6_isBetter_84 : decode cX6_isBetter 84 = .ok (.ireturn, 1) := by decide +kernel
set_option maxRecDepth 20000 in
theorem ggX6_bestReel_X6_doesFit : GoodIn wsX6_bestReel wsX6_doesFit := goodIn_ca (goodIn_r _ [6, 7, 8, 9, 5, 10, 1, 11, 12, 13, 14, 30, 31, 32, 33, 34, 35, 36, 37, 38, 39, 40, 41, 42, 43, 44, 45, 46, 47, 48, 49, 50, 51, 52, 53, 54, 55, 56] (by decide +kernel) (by decide +kernel)) (goodIn_sub (fun _ h => List.mem_cons_of_mem _ (List.mem_append_right _ h)) (by decide +kernel))
set_option maxRecDepth 20000 in
theorem gX6_bestReel_X6_doesFit : GoodIn wsX6_bestReel (wsV RX6 116 RX6 yX6_doesFit wsX6_doesFit) := goodIn_app (goodIn_of _ (by decide +kernel)) ggX6_bestReel_X6_doesFit
set_option maxRecDepth 20000 in
theorem ggX6_bestReel_J6_bitCount_0f7a4 : GoodIn wsX6_bestReel wsJ6_bitCount_0f7a4 := goodIn_r _ [18, 19, 20, 21] (by decide +kernel) (by decide +kernel)
set_option maxRecDepth 20000 in
theorem gX6_bestReel_J6_bitCount_0f7a4 : GoodIn wsX6_bestReel (va_wsS RX6 122 yJ6_bitCount_0f7a4 wsJ6_bitCount_0f7a4) := goodIn_app (goodIn_of _ (by decide +kernel)) ggX6_bestReel_J6_bitCount_0f7a4
set_option maxRecDepth 20000 in
theorem ggX6_bestReel_X6_lengthOf : GoodIn wsX6_bestReel wsX6_lengthOf := goodIn_ca (goodIn_r _ [25, 1, 7, 8, 9, 5, 10, 30, 31, 32, 33, 34, 35, 36, 37, 38, 39, 40, 41, 42, 43, 44, 45, 46, 47, 48, 49, 50, 51, 52, 53, 54, 55, 56] (by decide +kernel) (by decide +kernel)) (goodIn_sub (fun _ h => List.mem_cons_of_mem _ (List.mem_append_right _ h)) (by decide +kernel))
set_option maxRecDepth 20000 in
theorem gX6_bestReel_X6_lengthOf : GoodIn wsX6_bestReel (wsV RX6 119 RX6 yX6_lengthOf wsX6_lengthOf) := goodIn_app (goodIn_of _ (by decide +kernel)) ggX6_bestReel_X6_lengthOf
set_option maxRecDepth 20000 in
theorem ggX6_bestReel_X6_isBetter : GoodIn wsX6_bestReel wsX6_isBetter := goodIn_ca (goodIn_r _ [29, 22, 23, 24, 5, 25, 1, 7, 8, 9, 10, 15, 16, 17, 18, 19, 20, 21, 30, 31, 32, 33, 34, 35, 36, 37, 38, 39, 40, 41, 42, 43, 44, 45, 46, 47, 48, 49, 50, 51, 52, 53, 54, 55, 56] (by decide +kernel) (by decide +kernel)) (goodIn_sub (fun _ h => List.mem_cons_of_mem _ (List.mem_append_right _ h)) (by decide +kernel))
set_option maxRecDepth 20000 in
theorem gX6_bestReel_X6_isBetter : GoodIn wsX6_bestReel (wsV RX6 127 RX6 yX6_isBetter wsX6_isBetter) := goodIn_app (goodIn_of _ (by decide +kernel)) ggX6_bestReel_X6_isBetter
theorem dX6_bestReel_0 : decode cX6_bestReel 0 = .ok (.iconst 0, 1) := by decide +kernel
theorem dX6_bestReel_1 : decode cX6_bestReel 1 = .ok (.istore_n 3, 1) := by decide +kernel
theorem dX6_bestReel_2 : decode cX6_bestReel 2 = .ok (.iconst 0, 1) := by decide +kernel
theorem dX6_bestReel_3 : decode cX6_bestReel 3 = .ok (.istore 4, 2) := by decide +kernel
theorem dX6_bestReel_5 : decode cX6_bestReel 5 = .ok (.iload 4, 2) := by decide +kernel
theorem dX6_bestReel_7 : decode cX6_bestReel 7 = .ok (.aload_n 0, 1) := by decide +kernel
theorem dX6_bestReel_8 : decode cX6_bestReel 8 = .ok (.getfield 9, 3) := by decide +kernel
theorem dX6_bestReel_11 : decode cX6_bestReel 11 = .ok (.iconst 3, 1) := by decide +kernel
theorem dX6_bestReel_12 : decode cX6_bestReel 12 = .ok (.iaload, 1) := by decide +kernel
theorem dX6_bestReel_13 : decode cX6_bestReel 13 = .ok (.if_icmp .ge 31, 3) := by decide +kernel
theorem dX6_bestReel_16 : decode cX6_bestReel 16 = .ok (.iload_n 3, 1) := by decide +kernel
theorem dX6_bestReel_17 : decode cX6_bestReel 17 = .ok (.aload_n 0, 1) := by decide +kernel
theorem dX6_bestReel_18 : decode cX6_bestReel 18 = .ok (.iload 4, 2) := by decide +kernel
theorem dX6_bestReel_20 : decode cX6_bestReel 20 = .ok (.iload_n 1, 1) := by decide +kernel
theorem dX6_bestReel_21 : decode cX6_bestReel 21 = .ok (.iload_n 2, 1) := by decide +kernel
theorem dX6_bestReel_22 : decode cX6_bestReel 22 = .ok (.invokevirtual 116, 3) := by decide +kernel
theorem dX6_bestReel_25 : decode cX6_bestReel 25 = .ok (.ifCond .eq 10, 3) := by decide +kernel
theorem dX6_bestReel_28 : decode cX6_bestReel 28 = .ok (.iconst 1, 1) := by decide +kernel
theorem dX6_bestReel_29 : decode cX6_bestReel 29 = .ok (.iload 4, 2) := by decide +kernel
theorem dX6_bestReel_31 : decode cX6_bestReel 31 = .ok (.ishl, 1) := by decide +kernel
theorem dX6_bestReel_32 : decode cX6_bestReel 32 = .ok (.goto 4, 3) := by decide +kernel
theorem dX6_bestReel_35 : decode cX6_bestReel 35 = .ok (.iconst 0, 1) := by decide +kernel
theorem dX6_bestReel_36 : decode cX6_bestReel 36 = .ok (.ior, 1) := by decide +kernel
theorem dX6_bestReel_37 : decode cX6_bestReel 37 = .ok (.istore_n 3, 1) := by decide +kernel
theorem dX6_bestReel_38 : decode cX6_bestReel 38 = .ok (.iinc 4 1, 3) := by decide +kernel
theorem dX6_bestReel_41 : decode cX6_bestReel 41 = .ok (.goto (-36), 3) := by decide +kernel
theorem dX6_bestReel_44 : decode cX6_bestReel 44 = .ok (.iconst 0, 1) := by decide +kernel
theorem dX6_bestReel_45 : decode cX6_bestReel 45 = .ok (.istore 4, 2) := by decide +kernel
theorem dX6_bestReel_47 : decode cX6_bestReel 47 = .ok (.iconst 1, 1) := by decide +kernel
theorem dX6_bestReel_48 : decode cX6_bestReel 48 = .ok (.istore 5, 2) := by decide +kernel
theorem dX6_bestReel_50 : decode cX6_bestReel 50 = .ok (.iload 5, 2) := by decide +kernel
theorem dX6_bestReel_52 : decode cX6_bestReel 52 = .ok (.iconst 1, 1) := by decide +kernel
theorem dX6_bestReel_53 : decode cX6_bestReel 53 = .ok (.aload_n 0, 1) := by decide +kernel
theorem dX6_bestReel_54 : decode cX6_bestReel 54 = .ok (.getfield 9, 3) := by decide +kernel
theorem dX6_bestReel_57 : decode cX6_bestReel 57 = .ok (.iconst 3, 1) := by decide +kernel
theorem dX6_bestReel_58 : decode cX6_bestReel 58 = .ok (.iaload, 1) := by decide +kernel
theorem dX6_bestReel_59 : decode cX6_bestReel 59 = .ok (.ishl, 1) := by decide +kernel
theorem dX6_bestReel_60 : decode cX6_bestReel 60 = .ok (.if_icmp .ge 58, 3) := by decide +kernel
theorem dX6_bestReel_63 : decode cX6_bestReel 63 = .ok (.iload 5, 2) := by decide +kernel
theorem dX6_bestReel_65 : decode cX6_bestReel 65 = .ok (.iload_n 3, 1) := by decide +kernel
theorem dX6_bestReel_66 : decode cX6_bestReel 66 = .ok (.iconst (-1), 1) := by decide +kernel
theorem dX6_bestReel_67 : decode cX6_bestReel 67 = .ok (.ixor, 1) := by decide +kernel
theorem dX6_bestReel_68 : decode cX6_bestReel 68 = .ok (.iand, 1) := by decide +kernel
theorem dX6_bestReel_69 : decode cX6_bestReel 69 = .ok (.ifCond .ne 43, 3) := by decide +kernel
theorem dX6_bestReel_72 : decode cX6_bestReel 72 = .ok (.iload 5, 2) := by decide +kernel
theorem dX6_bestReel_74 : decode cX6_bestReel 74 = .ok (.invokestatic 122, 3) := by decide +kernel
theorem dX6_bestReel_77 : decode cX6_bestReel 77 = .ok (.iconst 4, 1) := by decide +kernel
theorem dX6_bestReel_78 : decode cX6_bestReel 78 = .ok (.if_icmp .gt 34, 3) := by decide +kernel
theorem dX6_bestReel_81 : decode cX6_bestReel 81 = .ok (.aload_n 0, 1) := by decide +kernel
theorem dX6_bestReel_82 : decode cX6_bestReel 82 = .ok (.iload 5, 2) := by decide +kernel
theorem dX6_bestReel_84 : decode cX6_bestReel 84 = .ok (.invokevirtual 119, 3) := by decide +kernel
theorem dX6_bestReel_87 : decode cX6_bestReel 87 = .ok (.aload_n 0, 1) := by decide +kernel
theorem dX6_bestReel_88 : decode cX6_bestReel 88 = .ok (.getfield 9, 3) := by decide +kernel
theorem dX6_bestReel_91 : decode cX6_bestReel 91 = .ok (.bipush 11, 2) := by decide +kernel
theorem dX6_bestReel_93 : decode cX6_bestReel 93 = .ok (.iaload, 1) := by decide +kernel
theorem dX6_bestReel_94 : decode cX6_bestReel 94 = .ok (.if_icmp .gt 18, 3) := by decide +kernel
theorem dX6_bestReel_97 : decode cX6_bestReel 97 = .ok (.aload_n 0, 1) := by decide +kernel
theorem dX6_bestReel_98 : decode cX6_bestReel 98 = .ok (.iload 5, 2) := by decide +kernel
theorem dX6_bestReel_100 : decode cX6_bestReel 100 = .ok (.iload 4, 2) := by decide +kernel
theorem dX6_bestReel_102 : decode cX6_bestReel 102 = .ok (.invokevirtual 127, 3) := by decide +kernel
theorem dX6_bestReel_105 : decode cX6_bestReel 105 = .ok (.ifCond .eq 7, 3) := by decide +kernel
theorem dX6_bestReel_108 : decode cX6_bestReel 108 = .ok (.iload 5, 2) := by decide +kernel
theorem dX6_bestReel_110 : decode cX6_bestReel 110 = .ok (.istore 4, 2) := by decide +kernel
theorem dX6_bestReel_112 : decode cX6_bestReel 112 = .ok (.iinc 5 1, 3) := by decide +kernel
theorem dX6_bestReel_115 : decode cX6_bestReel 115 = .ok (.goto (-65), 3) := by decide +kernel
theorem dX6_bestReel_118 : decode cX6_bestReel 118 = .ok (.iload 4, 2) := by decide +kernel
theorem dX6_bestReel_120 : decode cX6_bestReel 120 = .ok (.ireturn, 1) := by decide +kernel
set_option maxRecDepth 20000 in
theorem ggX6_reel_X6_isFilm : GoodIn wsX6_reel wsX6_isFilm := goodIn_ca (goodIn_r _ [5, 6, 7, 8, 4, 9, 53, 54, 55, 56, 57, 58, 59, 60, 61, 62, 63, 64, 65, 66, 67, 68, 69, 70, 71, 72, 73, 74, 75, 76, 77, 78, 79] (by decide +kernel) (by decide +kernel)) (goodIn_sub (fun _ h => List.mem_cons_of_mem _ (List.mem_append_right _ h)) (by decide +kernel))
set_option maxRecDepth 20000 in
theorem gX6_reel_X6_isFilm : GoodIn wsX6_reel (wsV RX6 78 RX6 yX6_isFilm wsX6_isFilm) := goodIn_app (goodIn_of _ (by decide +kernel)) ggX6_reel_X6_isFilm
set_option maxRecDepth 20000 in
theorem ggX6_reel_X6_fails : GoodIn wsX6_reel wsX6_fails := goodIn_r _ [13, 14, 53, 54, 55, 56, 57, 58, 59, 60, 61, 62, 63, 64, 65, 66, 67, 68, 69, 70, 71, 72, 73, 74, 75, 76, 77, 78, 79] (by decide +kernel) (by decide +kernel)
set_option maxRecDepth 20000 in
theorem gX6_reel_X6_fails : GoodIn wsX6_reel (wsV RX6 45 RX6 yX6_fails wsX6_fails) := goodIn_app (goodIn_of _ (by decide +kernel)) ggX6_reel_X6_fails
set_option maxRecDepth 20000 in
theorem ggX6_reel_X6_isDay : GoodIn wsX6_reel wsX6_isDay := goodIn_r _ [17, 7, 8, 4, 9] (by decide +kernel) (by decide +kernel)
set_option maxRecDepth 20000 in
theorem gX6_reel_X6_isDay : GoodIn wsX6_reel (va_wsS RX6 74 yX6_isDay wsX6_isDay) := goodIn_app (goodIn_of _ (by decide +kernel)) ggX6_reel_X6_isDay
set_option maxRecDepth 20000 in
theorem ggX6_reel_X6_bestReel : GoodIn wsX6_reel wsX6_bestReel := goodIn_ca (goodIn_r _ [21, 6, 22, 23, 24, 4, 25, 26, 27, 28, 29, 30, 31, 32, 33, 34, 35, 36, 37, 38, 39, 40, 41, 42, 43, 44, 45, 46, 47, 48, 53, 54, 55, 56, 57, 58, 59, 60, 61, 62, 63, 64, 65, 66, 67, 68, 69, 70, 71, 72, 73, 74, 75, 76, 77, 78, 79] (by decide +kernel) (by decide +kernel)) (goodIn_sub (fun _ h => List.mem_cons_of_mem _ (List.mem_append_right _ h)) (by decide +kernel))
set_option maxRecDepth 20000 in
theorem gX6_reel_X6_bestReel : GoodIn wsX6_reel (wsV RX6 130 RX6 yX6_bestReel wsX6_bestReel) := goodIn_app (goodIn_of _ (by decide +kernel)) ggX6_reel_X6_bestReel
set_option maxRecDepth 20000 in
theorem ggX6_reel_X6_lengthOf : GoodIn wsX6_reel wsX6_lengthOf := goodIn_ca (goodIn_r _ [44, 6, 26, 27, 28, 4, 29, 53, 54, 55, 56, 57, 58, 59, 60, 61, 62, 63, 64, 65, 66, 67, 68, 69, 70, 71, 72, 73, 74, 75, 76, 77, 78, 79] (by decide +kernel) (by decide +kernel)) (goodIn_sub (fun _ h => List.mem_cons_of_mem _ (List.mem_append_right _ h)) (by decide +kernel))
set_option maxRecDepth 20000 in
theorem gX6_reel_X6_lengthOf : GoodIn wsX6_reel (wsV RX6 119 RX6 yX6_lengthOf wsX6_lengthOf) := goodIn_app (goodIn_of _ (by decide +kernel)) ggX6_reel_X6_lengthOf
set_option maxRecDepth 20000 in
theorem ggX6_reel_X6_done : GoodIn wsX6_reel wsX6_done := goodIn_r _ [52, 14, 53, 54, 55, 56, 57, 58, 59, 60, 61, 62, 63, 64, 65, 66, 67, 68, 69, 70, 71, 72, 73, 74, 75, 76, 77, 78, 79] (by decide +kernel) (by decide +kernel)
set_option maxRecDepth 20000 in
theorem gX6_reel_X6_done : GoodIn wsX6_reel (wsV RX6 71 RX6 yX6_done wsX6_done) := goodIn_app (goodIn_of _ (by decide +kernel)) ggX6_reel_X6_done
theorem dX6_reel_0 : decode cX6_reel 0 = .ok (.aload_n 0, 1) := by decide +kernel
theorem dX6_reel_1 : decode cX6_reel 1 = .ok (.iload_n 1, 1) := by decide +kernel
theorem dX6_reel_2 : decode cX6_reel 2 = .ok (.invokevirtual 78, 3) := by decide +kernel
theorem dX6_reel_5 : decode cX6_reel 5 = .ok (.ifCond .ne 9, 3) := by decide +kernel
theorem dX6_reel_8 : decode cX6_reel 8 = .ok (.aload_n 0, 1) := by decide +kernel
theorem dX6_reel_9 : decode cX6_reel 9 = .ok (.iconst 1, 1) := by decide +kernel
theorem dX6_reel_10 : decode cX6_reel 10 = .ok (.invokevirtual 45, 3) := by decide +kernel
theorem dX6_reel_13 : decode cX6_reel 13 = .ok (.ireturn, 1) := by decide +kernel
theorem dX6_reel_14 : decode cX6_reel 14 = .ok (.iload_n 2, 1) := by decide +kernel
theorem dX6_reel_15 : decode cX6_reel 15 = .ok (.invokestatic 74, 3) := by decide +kernel
theorem dX6_reel_18 : decode cX6_reel 18 = .ok (.ifCond .ne 9, 3) := by decide +kernel
theorem dX6_reel_21 : decode cX6_reel 21 = .ok (.aload_n 0, 1) := by decide +kernel
theorem dX6_reel_22 : decode cX6_reel 22 = .ok (.iconst 2, 1) := by decide +kernel
theorem dX6_reel_23 : decode cX6_reel 23 = .ok (.invokevirtual 45, 3) := by decide +kernel
theorem dX6_reel_26 : decode cX6_reel 26 = .ok (.ireturn, 1) := by decide +kernel
theorem dX6_reel_27 : decode cX6_reel 27 = .ok (.aload_n 0, 1) := by decide +kernel
theorem dX6_reel_28 : decode cX6_reel 28 = .ok (.iload_n 1, 1) := by decide +kernel
theorem dX6_reel_29 : decode cX6_reel 29 = .ok (.iload_n 2, 1) := by decide +kernel
theorem dX6_reel_30 : decode cX6_reel 30 = .ok (.invokevirtual 130, 3) := by decide +kernel
theorem dX6_reel_33 : decode cX6_reel 33 = .ok (.istore 4, 2) := by decide +kernel
theorem dX6_reel_35 : decode cX6_reel 35 = .ok (.aload_n 0, 1) := by decide +kernel
theorem dX6_reel_36 : decode cX6_reel 36 = .ok (.iload_n 3, 1) := by decide +kernel
theorem dX6_reel_37 : decode cX6_reel 37 = .ok (.ifCond .eq 12, 3) := by decide +kernel
theorem dX6_reel_40 : decode cX6_reel 40 = .ok (.aload_n 0, 1) := by decide +kernel
theorem dX6_reel_41 : decode cX6_reel 41 = .ok (.iload 4, 2) := by decide +kernel
theorem dX6_reel_43 : decode cX6_reel 43 = .ok (.invokevirtual 119, 3) := by decide +kernel
theorem dX6_reel_46 : decode cX6_reel 46 = .ok (.goto 5, 3) := by decide +kernel
theorem dX6_reel_49 : decode cX6_reel 49 = .ok (.iload 4, 2) := by decide +kernel
theorem dX6_reel_51 : decode cX6_reel 51 = .ok (.invokevirtual 71, 3) := by decide +kernel
theorem dX6_reel_54 : decode cX6_reel 54 = .ok (.ireturn, 1) := by decide +kernel
set_option maxRecDepth 20000 in
theorem ggX6_isOther_X6_stands : GoodIn wsX6_isOther wsX6_stands := goodIn_ca (goodIn_r _ [7, 8, 9, 10, 6, 11, 12, 13, 14, 15, 16, 17, 18, 19, 20, 21, 22, 23, 24, 25, 26, 27, 28, 29, 30, 31, 32, 33, 34, 35, 36, 37, 38, 39] (by decide +kernel) (by decide +kernel)) (goodIn_sub (fun _ h => List.mem_cons_of_mem _ (List.mem_append_right _ h)) (by decide +kernel))
set_option maxRecDepth 20000 in
theorem gX6_isOther_X6_stands : GoodIn wsX6_isOther (wsV RX6 107 RX6 yX6_stands wsX6_stands) := goodIn_app (goodIn_of _ (by decide +kernel)) ggX6_isOther_X6_stands
set_option maxRecDepth 20000 in
theorem ggX6_isOther_X6_showAt : GoodIn wsX6_isOther wsX6_showAt := goodIn_ca (goodIn_r _ [11, 12, 13, 14, 15, 16, 17, 18, 19, 20, 21, 22, 23, 24, 25, 26, 27, 28, 29, 30, 31, 32, 33, 34, 35, 36, 37, 38, 39] (by decide +kernel) (by decide +kernel)) (goodIn_sub (fun _ h => List.mem_cons_of_mem _ (List.mem_append_right _ h)) (by decide +kernel))
set_option maxRecDepth 20000 in
theorem gX6_isOther_X6_showAt : GoodIn wsX6_isOther (wsV RX6 89 RX6 yX6_showAt wsX6_showAt) := goodIn_app (goodIn_of _ (by decide +kernel)) ggX6_isOther_X6_showAt
theorem dX6_isOther_0 : decode cX6_isOther 0 = .ok (.iload_n 1, 1) := by decide +kernel
theorem dX6_isOther_1 : decode cX6_isOther 1 = .ok (.aload_n 0, 1) := by decide +kernel
theorem dX6_isOther_2 : decode cX6_isOther 2 = .ok (.getfield 133, 3) := by decide +kernel
theorem dX6_isOther_5 : decode cX6_isOther 5 = .ok (.if_icmp .eq 28, 3) := by decide +kernel
theorem dX6_isOther_8 : decode cX6_isOther 8 = .ok (.aload_n 0, 1) := by decide +kernel
theorem dX6_isOther_9 : decode cX6_isOther 9 = .ok (.iload_n 1, 1) := by decide +kernel
theorem dX6_isOther_10 : decode cX6_isOther 10 = .ok (.invokevirtual 107, 3) := by decide +kernel
theorem dX6_isOther_13 : decode cX6_isOther 13 = .ok (.ifCond .eq 20, 3) := by decide +kernel
theorem dX6_isOther_16 : decode cX6_isOther 16 = .ok (.aload_n 0, 1) := by decide +kernel
theorem dX6_isOther_17 : decode cX6_isOther 17 = .ok (.iload_n 1, 1) := by decide +kernel
theorem dX6_isOther_18 : decode cX6_isOther 18 = .ok (.iconst 2, 1) := by decide +kernel
theorem dX6_isOther_19 : decode cX6_isOther 19 = .ok (.invokevirtual 89, 3) := by decide +kernel
theorem dX6_isOther_22 : decode cX6_isOther 22 = .ok (.aload_n 0, 1) := by decide +kernel
theorem dX6_isOther_23 : decode cX6_isOther 23 = .ok (.getfield 136, 3) := by decide +kernel
theorem dX6_isOther_26 : decode cX6_isOther 26 = .ok (.if_icmp .ne 7, 3) := by decide +kernel
theorem dX6_isOther_29 : decode cX6_isOther 29 = .ok (.iconst 1, 1) := by decide +kernel
theorem dX6_isOther_30 : decode cX6_isOther 30 = .ok (.goto 4, 3) := by decide +kernel
theorem dX6_isOther_33 : decode cX6_isOther 33 = .ok (.iconst 0, 1) := by decide +kernel
theorem dX6_isOther_34 : decode cX6_isOther 34 = .ok (.ireturn, 1) := by decide +kernel
set_option maxRecDepth 20000 in
theorem ggX6_meetsInHall_X6_hallAt : GoodIn wsX6_meetsInHall wsX6_hallAt := goodIn_ca (goodIn_r _ [9, 3, 40, 41, 42, 43, 44, 45, 46, 47, 48, 49, 50, 51, 52, 53, 54, 55, 56, 57, 58, 59, 60, 61, 62, 63, 64, 65, 66] (by decide +kernel) (by decide +kernel)) (goodIn_sub (fun _ h => List.mem_cons_of_mem _ (List.mem_append_right _ h)) (by decide +kernel))
set_option maxRecDepth 20000 in
theorem gX6_meetsInHall_X6_hallAt : GoodIn wsX6_meetsInHall (wsV RX6 95 RX6 yX6_hallAt wsX6_hallAt) := goodIn_app (goodIn_of _ (by decide +kernel)) ggX6_meetsInHall_X6_hallAt
set_option maxRecDepth 20000 in
theorem ggX6_meetsInHall_X6_isOther : GoodIn wsX6_meetsInHall wsX6_isOther := goodIn_ca (goodIn_r _ [13, 14, 15, 16, 17, 18, 8, 19, 20, 21, 22, 23, 3, 40, 41, 42, 43, 44, 45, 46, 47, 48, 49, 50, 51, 52, 53, 54, 55, 56, 57, 58, 59, 60, 61, 62, 63, 64, 65, 66] (by decide +kernel) (by decide +kernel)) (goodIn_sub (fun _ h => List.mem_cons_of_mem _ (List.mem_append_right _ h)) (by decide +kernel))
set_option maxRecDepth 20000 in
theorem gX6_meetsInHall_X6_isOther : GoodIn wsX6_meetsInHall (wsV RX6 145 RX6 yX6_isOther wsX6_isOther) := goodIn_app (goodIn_of _ (by decide +kernel)) ggX6_meetsInHall_X6_isOther
set_option maxRecDepth 20000 in
theorem ggX6_meetsInHall_X6_showAt : GoodIn wsX6_meetsInHall wsX6_showAt := goodIn_ca (goodIn_r _ [23, 3, 40, 41, 42, 43, 44, 45, 46, 47, 48, 49, 50, 51, 52, 53, 54, 55, 56, 57, 58, 59, 60, 61, 62, 63, 64, 65, 66] (by decide +kernel) (by decide +kernel)) (goodIn_sub (fun _ h => List.mem_cons_of_mem _ (List.mem_append_right _ h)) (by decide +kernel))
set_option maxRecDepth 20000 in
theorem gX6_meetsInHall_X6_showAt : GoodIn wsX6_meetsInHall (wsV RX6 89 RX6 yX6_showAt wsX6_showAt) := goodIn_app (goodIn_of _ (by decide +kernel)) ggX6_meetsInHall_X6_showAt
set_option maxRecDepth 20000 in
theorem ggX6_meetsInHall_X6_endOf : GoodIn wsX6_meetsInHall wsX6_endOf := goodIn_ca (goodIn_r _ [27, 20, 21, 22, 8, 23, 3, 28, 29, 30, 31, 32, 33, 34, 35, 40, 41, 42, 43, 44, 45, 46, 47, 48, 49, 50, 51, 52, 53, 54, 55, 56, 57, 58, 59, 60, 61, 62, 63, 64, 65, 66] (by decide +kernel) (by decide +kernel)) (goodIn_sub (fun _ h => List.mem_cons_of_mem _ (List.mem_append_right _ h)) (by decide +kernel))
set_option maxRecDepth 20000 in
theorem gX6_meetsInHall_X6_endOf : GoodIn wsX6_meetsInHall (wsV RX6 151 RX6 yX6_endOf wsX6_endOf) := goodIn_app (goodIn_of _ (by decide +kernel)) ggX6_meetsInHall_X6_endOf
set_option maxRecDepth 20000 in
theorem ggX6_meetsInHall_X6_cleanOf : GoodIn wsX6_meetsInHall wsX6_cleanOf := goodIn_ca (goodIn_r _ [39, 20, 21, 22, 8, 23, 3, 5, 6, 7, 9, 40, 41, 42, 43, 44, 45, 46, 47, 48, 49, 50, 51, 52, 53, 54, 55, 56, 57, 58, 59, 60, 61, 62, 63, 64, 65, 66] (by decide +kernel) (by decide +kernel)) (goodIn_sub (fun _ h => List.mem_cons_of_mem _ (List.mem_append_right _ h)) (by decide +kernel))
set_option maxRecDepth 20000 in
theorem gX6_meetsInHall_X6_cleanOf : GoodIn wsX6_meetsInHall (wsV RX6 154 RX6 yX6_cleanOf wsX6_cleanOf) := goodIn_app (goodIn_of _ (by decide +kernel)) ggX6_meetsInHall_X6_cleanOf
theorem dX6_meetsInHall_0 : decode cX6_meetsInHall 0 = .ok (.aload_n 0, 1) := by decide +kernel
theorem dX6_meetsInHall_1 : decode cX6_meetsInHall 1 = .ok (.getfield 139, 3) := by decide +kernel
theorem dX6_meetsInHall_4 : decode cX6_meetsInHall 4 = .ok (.aload_n 0, 1) := by decide +kernel
theorem dX6_meetsInHall_5 : decode cX6_meetsInHall 5 = .ok (.aload_n 0, 1) := by decide +kernel
theorem dX6_meetsInHall_6 : decode cX6_meetsInHall 6 = .ok (.getfield 142, 3) := by decide +kernel
theorem dX6_meetsInHall_9 : decode cX6_meetsInHall 9 = .ok (.iconst 1, 1) := by decide +kernel
theorem dX6_meetsInHall_10 : decode cX6_meetsInHall 10 = .ok (.invokevirtual 95, 3) := by decide +kernel
theorem dX6_meetsInHall_13 : decode cX6_meetsInHall 13 = .ok (.iadd, 1) := by decide +kernel
theorem dX6_meetsInHall_14 : decode cX6_meetsInHall 14 = .ok (.istore_n 1, 1) := by decide +kernel
theorem dX6_meetsInHall_15 : decode cX6_meetsInHall 15 = .ok (.iconst 0, 1) := by decide +kernel
theorem dX6_meetsInHall_16 : decode cX6_meetsInHall 16 = .ok (.istore_n 2, 1) := by decide +kernel
theorem dX6_meetsInHall_17 : decode cX6_meetsInHall 17 = .ok (.iload_n 2, 1) := by decide +kernel
theorem dX6_meetsInHall_18 : decode cX6_meetsInHall 18 = .ok (.aload_n 0, 1) := by decide +kernel
theorem dX6_meetsInHall_19 : decode cX6_meetsInHall 19 = .ok (.getfield 9, 3) := by decide +kernel
theorem dX6_meetsInHall_22 : decode cX6_meetsInHall 22 = .ok (.iconst 4, 1) := by decide +kernel
theorem dX6_meetsInHall_23 : decode cX6_meetsInHall 23 = .ok (.iaload, 1) := by decide +kernel
theorem dX6_meetsInHall_24 : decode cX6_meetsInHall 24 = .ok (.if_icmp .ge 60, 3) := by decide +kernel
theorem dX6_meetsInHall_27 : decode cX6_meetsInHall 27 = .ok (.aload_n 0, 1) := by decide +kernel
theorem dX6_meetsInHall_28 : decode cX6_meetsInHall 28 = .ok (.iload_n 2, 1) := by decide +kernel
theorem dX6_meetsInHall_29 : decode cX6_meetsInHall 29 = .ok (.invokevirtual 145, 3) := by decide +kernel
theorem dX6_meetsInHall_32 : decode cX6_meetsInHall 32 = .ok (.ifCond .eq 46, 3) := by decide +kernel
theorem dX6_meetsInHall_35 : decode cX6_meetsInHall 35 = .ok (.aload_n 0, 1) := by decide +kernel
theorem dX6_meetsInHall_36 : decode cX6_meetsInHall 36 = .ok (.iload_n 2, 1) := by decide +kernel
theorem dX6_meetsInHall_37 : decode cX6_meetsInHall 37 = .ok (.iconst 0, 1) := by decide +kernel
theorem dX6_meetsInHall_38 : decode cX6_meetsInHall 38 = .ok (.invokevirtual 89, 3) := by decide +kernel
theorem dX6_meetsInHall_41 : decode cX6_meetsInHall 41 = .ok (.aload_n 0, 1) := by decide +kernel
theorem dX6_meetsInHall_42 : decode cX6_meetsInHall 42 = .ok (.getfield 142, 3) := by decide +kernel
theorem dX6_meetsInHall_45 : decode cX6_meetsInHall 45 = .ok (.if_icmp .ne 33, 3) := by decide +kernel
theorem dX6_meetsInHall_48 : decode cX6_meetsInHall 48 = .ok (.aload_n 0, 1) := by decide +kernel
theorem dX6_meetsInHall_49 : decode cX6_meetsInHall 49 = .ok (.iload_n 2, 1) := by decide +kernel
theorem dX6_meetsInHall_50 : decode cX6_meetsInHall 50 = .ok (.iconst 3, 1) := by decide +kernel
theorem dX6_meetsInHall_51 : decode cX6_meetsInHall 51 = .ok (.invokevirtual 89, 3) := by decide +kernel
theorem dX6_meetsInHall_54 : decode cX6_meetsInHall 54 = .ok (.iload_n 1, 1) := by decide +kernel
theorem dX6_meetsInHall_55 : decode cX6_meetsInHall 55 = .ok (.if_icmp .ge 23, 3) := by decide +kernel
theorem dX6_meetsInHall_58 : decode cX6_meetsInHall 58 = .ok (.aload_n 0, 1) := by decide +kernel
theorem dX6_meetsInHall_59 : decode cX6_meetsInHall 59 = .ok (.getfield 148, 3) := by decide +kernel
theorem dX6_meetsInHall_62 : decode cX6_meetsInHall 62 = .ok (.aload_n 0, 1) := by decide +kernel
theorem dX6_meetsInHall_63 : decode cX6_meetsInHall 63 = .ok (.iload_n 2, 1) := by decide +kernel
theorem dX6_meetsInHall_64 : decode cX6_meetsInHall 64 = .ok (.invokevirtual 151, 3) := by decide +kernel
theorem dX6_meetsInHall_67 : decode cX6_meetsInHall 67 = .ok (.aload_n 0, 1) := by decide +kernel
theorem dX6_meetsInHall_68 : decode cX6_meetsInHall 68 = .ok (.iload_n 2, 1) := by decide +kernel
theorem dX6_meetsInHall_69 : decode cX6_meetsInHall 69 = .ok (.invokevirtual 154, 3) := by decide +kernel
theorem dX6_meetsInHall_72 : decode cX6_meetsInHall 72 = .ok (.iadd, 1) := by decide +kernel
theorem dX6_meetsInHall_73 : decode cX6_meetsInHall 73 = .ok (.if_icmp .ge 5, 3) := by decide +kernel
theorem dX6_meetsInHall_76 : decode cX6_meetsInHall 76 = .ok (.iload_n 2, 1) := by decide +kernel
theorem dX6_meetsInHall_77 : decode cX6_meetsInHall 77 = .ok (.ireturn, 1) := by decide +kernel
theorem dX6_meetsInHall_78 : decode cX6_meetsInHall 78 = .ok (.iinc 2 1, 3) := by decide +kernel
theorem dX6_meetsInHall_81 : decode cX6_meetsInHall 81 = .ok (.goto (-64), 3) := by decide +kernel
theorem dX6_meetsInHall_84 : decode cX6_meetsInHall 84 = .ok (.iconst (-1), 1) := by decide +kernel
theorem dX6_meetsInHall_85 : decode cX6_meetsInHall 85 = .ok (.ireturn, 1) := by decide +kernel
set_option maxRecDepth 20000 in
theorem ggX6_copiesAt_X6_isOther : GoodIn wsX6_copiesAt wsX6_isOther := goodIn_ca (goodIn_r _ [7, 8, 9, 10, 11, 12, 6, 13, 14, 15, 16, 17, 1, 33, 34, 35, 36, 37, 38, 39, 40, 41, 42, 43, 44, 45, 46, 47, 48, 49, 50, 51, 52, 53, 54, 55, 56, 57, 58, 59] (by decide +kernel) (by decide +kernel)) (goodIn_sub (fun _ h => List.mem_cons_of_mem _ (List.mem_append_right _ h)) (by decide +kernel))
set_option maxRecDepth 20000 in
theorem gX6_copiesAt_X6_isOther : GoodIn wsX6_copiesAt (wsV RX6 145 RX6 yX6_isOther wsX6_isOther) := goodIn_app (goodIn_of _ (by decide +kernel)) ggX6_copiesAt_X6_isOther
set_option maxRecDepth 20000 in
theorem ggX6_copiesAt_X6_showAt : GoodIn wsX6_copiesAt wsX6_showAt := goodIn_ca (goodIn_r _ [17, 1, 33, 34, 35, 36, 37, 38, 39, 40, 41, 42, 43, 44, 45, 46, 47, 48, 49, 50, 51, 52, 53, 54, 55, 56, 57, 58, 59] (by decide +kernel) (by decide +kernel)) (goodIn_sub (fun _ h => List.mem_cons_of_mem _ (List.mem_append_right _ h)) (by decide +kernel))
set_option maxRecDepth 20000 in
theorem gX6_copiesAt_X6_showAt : GoodIn wsX6_copiesAt (wsV RX6 89 RX6 yX6_showAt wsX6_showAt) := goodIn_app (goodIn_of _ (by decide +kernel)) ggX6_copiesAt_X6_showAt
set_option maxRecDepth 20000 in
theorem ggX6_copiesAt_X6_endOf : GoodIn wsX6_copiesAt wsX6_endOf := goodIn_ca (goodIn_r _ [21, 14, 15, 16, 6, 17, 1, 22, 23, 24, 25, 26, 27, 28, 29, 33, 34, 35, 36, 37, 38, 39, 40, 41, 42, 43, 44, 45, 46, 47, 48, 49, 50, 51, 52, 53, 54, 55, 56, 57, 58, 59] (by decide +kernel) (by decide +kernel)) (goodIn_sub (fun _ h => List.mem_cons_of_mem _ (List.mem_append_right _ h)) (by decide +kernel))
set_option maxRecDepth 20000 in
theorem gX6_copiesAt_X6_endOf : GoodIn wsX6_copiesAt (wsV RX6 151 RX6 yX6_endOf wsX6_endOf) := goodIn_app (goodIn_of _ (by decide +kernel)) ggX6_copiesAt_X6_endOf
set_option maxRecDepth 20000 in
theorem ggX6_copiesAt_X6_in : GoodIn wsX6_copiesAt wsX6_in := goodIn_r _ [32] (by decide +kernel) (by decide +kernel)
set_option maxRecDepth 20000 in
theorem gX6_copiesAt_X6_in : GoodIn wsX6_copiesAt (va_wsS RX6 64 yX6_in wsX6_in) := goodIn_app (goodIn_of _ (by decide +kernel)) ggX6_copiesAt_X6_in
theorem dX6_copiesAt_0 : decode cX6_copiesAt 0 = .ok (.iconst 1, 1) := by decide +kernel
theorem dX6_copiesAt_1 : decode cX6_copiesAt 1 = .ok (.istore_n 2, 1) := by decide +kernel
theorem dX6_copiesAt_2 : decode cX6_copiesAt 2 = .ok (.iconst 0, 1) := by decide +kernel
theorem dX6_copiesAt_3 : decode cX6_copiesAt 3 = .ok (.istore_n 3, 1) := by decide +kernel
theorem dX6_copiesAt_4 : decode cX6_copiesAt 4 = .ok (.iload_n 3, 1) := by decide +kernel
theorem dX6_copiesAt_5 : decode cX6_copiesAt 5 = .ok (.aload_n 0, 1) := by decide +kernel
theorem dX6_copiesAt_6 : decode cX6_copiesAt 6 = .ok (.getfield 9, 3) := by decide +kernel
theorem dX6_copiesAt_9 : decode cX6_copiesAt 9 = .ok (.iconst 4, 1) := by decide +kernel
theorem dX6_copiesAt_10 : decode cX6_copiesAt 10 = .ok (.iaload, 1) := by decide +kernel
theorem dX6_copiesAt_11 : decode cX6_copiesAt 11 = .ok (.if_icmp .ge 66, 3) := by decide +kernel
theorem dX6_copiesAt_14 : decode cX6_copiesAt 14 = .ok (.iload_n 2, 1) := by decide +kernel
theorem dX6_copiesAt_15 : decode cX6_copiesAt 15 = .ok (.aload_n 0, 1) := by decide +kernel
theorem dX6_copiesAt_16 : decode cX6_copiesAt 16 = .ok (.iload_n 3, 1) := by decide +kernel
theorem dX6_copiesAt_17 : decode cX6_copiesAt 17 = .ok (.invokevirtual 145, 3) := by decide +kernel
theorem dX6_copiesAt_20 : decode cX6_copiesAt 20 = .ok (.ifCond .eq 48, 3) := by decide +kernel
theorem dX6_copiesAt_23 : decode cX6_copiesAt 23 = .ok (.aload_n 0, 1) := by decide +kernel
theorem dX6_copiesAt_24 : decode cX6_copiesAt 24 = .ok (.iload_n 3, 1) := by decide +kernel
theorem dX6_copiesAt_25 : decode cX6_copiesAt 25 = .ok (.iconst 1, 1) := by decide +kernel
theorem dX6_copiesAt_26 : decode cX6_copiesAt 26 = .ok (.invokevirtual 89, 3) := by decide +kernel
theorem dX6_copiesAt_29 : decode cX6_copiesAt 29 = .ok (.aload_n 0, 1) := by decide +kernel
theorem dX6_copiesAt_30 : decode cX6_copiesAt 30 = .ok (.getfield 157, 3) := by decide +kernel
theorem dX6_copiesAt_33 : decode cX6_copiesAt 33 = .ok (.if_icmp .ne 35, 3) := by decide +kernel
theorem dX6_copiesAt_36 : decode cX6_copiesAt 36 = .ok (.iload_n 1, 1) := by decide +kernel
theorem dX6_copiesAt_37 : decode cX6_copiesAt 37 = .ok (.aload_n 0, 1) := by decide +kernel
theorem dX6_copiesAt_38 : decode cX6_copiesAt 38 = .ok (.iload_n 3, 1) := by decide +kernel
theorem dX6_copiesAt_39 : decode cX6_copiesAt 39 = .ok (.iconst 3, 1) := by decide +kernel
theorem dX6_copiesAt_40 : decode cX6_copiesAt 40 = .ok (.invokevirtual 89, 3) := by decide +kernel
theorem dX6_copiesAt_43 : decode cX6_copiesAt 43 = .ok (.aload_n 0, 1) := by decide +kernel
theorem dX6_copiesAt_44 : decode cX6_copiesAt 44 = .ok (.iload_n 3, 1) := by decide +kernel
theorem dX6_copiesAt_45 : decode cX6_copiesAt 45 = .ok (.invokevirtual 151, 3) := by decide +kernel
theorem dX6_copiesAt_48 : decode cX6_copiesAt 48 = .ok (.aload_n 0, 1) := by decide +kernel
theorem dX6_copiesAt_49 : decode cX6_copiesAt 49 = .ok (.getfield 9, 3) := by decide +kernel
theorem dX6_copiesAt_52 : decode cX6_copiesAt 52 = .ok (.bipush 10, 2) := by decide +kernel
theorem dX6_copiesAt_54 : decode cX6_copiesAt 54 = .ok (.iaload, 1) := by decide +kernel
theorem dX6_copiesAt_55 : decode cX6_copiesAt 55 = .ok (.iadd, 1) := by decide +kernel
theorem dX6_copiesAt_56 : decode cX6_copiesAt 56 = .ok (.iconst 1, 1) := by decide +kernel
theorem dX6_copiesAt_57 : decode cX6_copiesAt 57 = .ok (.isub, 1) := by decide +kernel
theorem dX6_copiesAt_58 : decode cX6_copiesAt 58 = .ok (.invokestatic 64, 3) := by decide +kernel
theorem dX6_copiesAt_61 : decode cX6_copiesAt 61 = .ok (.ifCond .eq 7, 3) := by decide +kernel
theorem dX6_copiesAt_64 : decode cX6_copiesAt 64 = .ok (.iconst 1, 1) := by decide +kernel
theorem dX6_copiesAt_65 : decode cX6_copiesAt 65 = .ok (.goto 4, 3) := by decide +kernel
theorem dX6_copiesAt_68 : decode cX6_copiesAt 68 = .ok (.iconst 0, 1) := by decide +kernel
theorem dX6_copiesAt_69 : decode cX6_copiesAt 69 = .ok (.iadd, 1) := by decide +kernel
theorem dX6_copiesAt_70 : decode cX6_copiesAt 70 = .ok (.istore_n 2, 1) := by decide +kernel
theorem dX6_copiesAt_71 : decode cX6_copiesAt 71 = .ok (.iinc 3 1, 3) := by decide +kernel
theorem dX6_copiesAt_74 : decode cX6_copiesAt 74 = .ok (.goto (-70), 3) := by decide +kernel
theorem dX6_copiesAt_77 : decode cX6_copiesAt 77 = .ok (.iload_n 2, 1) := by decide +kernel
theorem dX6_copiesAt_78 : decode cX6_copiesAt 78 = .ok (.ireturn, 1) := by decide +kernel
set_option maxRecDepth 20000 in
theorem ggX6_tooManyCopies_X6_copiesAt : GoodIn wsX6_tooManyCopies wsX6_copiesAt := goodIn_ca (goodIn_r _ [9, 2, 4, 10, 11, 12, 8, 13, 14, 15, 16, 17, 18, 19, 20, 21, 22, 23, 24, 25, 26, 27, 28, 29, 30, 31, 32, 33, 34, 35, 36, 37, 38, 39, 40, 41, 42, 43, 44, 45, 46, 47, 48, 49, 50, 51, 52, 53, 54, 55, 56, 57, 58, 59, 60, 61, 62, 63, 64, 65] (by decide +kernel) (by decide +kernel)) (goodIn_sub (fun _ h => List.mem_cons_of_mem _ (List.mem_append_right _ h)) (by decide +kernel))
set_option maxRecDepth 20000 in
theorem gX6_tooManyCopies_X6_copiesAt : GoodIn wsX6_tooManyCopies (wsV RX6 160 RX6 yX6_copiesAt wsX6_copiesAt) := goodIn_app (goodIn_of _ (by decide +kernel)) ggX6_tooManyCopies_X6_copiesAt
set_option maxRecDepth 20000 in
theorem ggX6_tooManyCopies_X6_filmAt : GoodIn wsX6_tooManyCopies wsX6_filmAt := goodIn_ca (goodIn_r _ [35, 2, 39, 40, 41, 42, 43, 44, 45, 46, 47, 48, 49, 50, 51, 52, 53, 54, 55, 56, 57, 58, 59, 60, 61, 62, 63, 64, 65] (by decide +kernel) (by decide +kernel)) (goodIn_sub (fun _ h => List.mem_cons_of_mem _ (List.mem_append_right _ h)) (by decide +kernel))
set_option maxRecDepth 20000 in
theorem gX6_tooManyCopies_X6_filmAt : GoodIn wsX6_tooManyCopies (wsV RX6 81 RX6 yX6_filmAt wsX6_filmAt) := goodIn_app (goodIn_of _ (by decide +kernel)) ggX6_tooManyCopies_X6_filmAt
set_option maxRecDepth 20000 in
theorem ggX6_tooManyCopies_X6_showAt : GoodIn wsX6_tooManyCopies wsX6_showAt := goodIn_ca (goodIn_r _ [23, 2, 39, 40, 41, 42, 43, 44, 45, 46, 47, 48, 49, 50, 51, 52, 53, 54, 55, 56, 57, 58, 59, 60, 61, 62, 63, 64, 65] (by decide +kernel) (by decide +kernel)) (goodIn_sub (fun _ h => List.mem_cons_of_mem _ (List.mem_append_right _ h)) (by decide +kernel))
set_option maxRecDepth 20000 in
theorem gX6_tooManyCopies_X6_showAt : GoodIn wsX6_tooManyCopies (wsV RX6 89 RX6 yX6_showAt wsX6_showAt) := goodIn_app (goodIn_of _ (by decide +kernel)) ggX6_tooManyCopies_X6_showAt
set_option maxRecDepth 20000 in
theorem ggX6_tooManyCopies_X6_isOther : GoodIn wsX6_tooManyCopies wsX6_isOther := goodIn_ca (goodIn_r _ [13, 14, 15, 16, 17, 18, 8, 19, 20, 21, 22, 23, 2, 39, 40, 41, 42, 43, 44, 45, 46, 47, 48, 49, 50, 51, 52, 53, 54, 55, 56, 57, 58, 59, 60, 61, 62, 63, 64, 65] (by decide +kernel) (by decide +kernel)) (goodIn_sub (fun _ h => List.mem_cons_of_mem _ (List.mem_append_right _ h)) (by decide +kernel))
set_option maxRecDepth 20000 in
theorem gX6_tooManyCopies_X6_isOther : GoodIn wsX6_tooManyCopies (wsV RX6 145 RX6 yX6_isOther wsX6_isOther) := goodIn_app (goodIn_of _ (by decide +kernel)) ggX6_tooManyCopies_X6_isOther
theorem dX6_tooManyCopies_0 : decode cX6_tooManyCopies 0 = .ok (.aload_n 0, 1) := by decide +kernel
theorem dX6_tooManyCopies_1 : decode cX6_tooManyCopies 1 = .ok (.getfield 139, 3) := by decide +kernel
theorem dX6_tooManyCopies_4 : decode cX6_tooManyCopies 4 = .ok (.aload_n 0, 1) := by decide +kernel
theorem dX6_tooManyCopies_5 : decode cX6_tooManyCopies 5 = .ok (.getfield 9, 3) := by decide +kernel
theorem dX6_tooManyCopies_8 : decode cX6_tooManyCopies 8 = .ok (.bipush 10, 2) := by decide +kernel
theorem dX6_tooManyCopies_10 : decode cX6_tooManyCopies 10 = .ok (.iaload, 1) := by decide +kernel
theorem dX6_tooManyCopies_11 : decode cX6_tooManyCopies 11 = .ok (.iadd, 1) := by decide +kernel
theorem dX6_tooManyCopies_12 : decode cX6_tooManyCopies 12 = .ok (.istore_n 1, 1) := by decide +kernel
theorem dX6_tooManyCopies_13 : decode cX6_tooManyCopies 13 = .ok (.aload_n 0, 1) := by decide +kernel
theorem dX6_tooManyCopies_14 : decode cX6_tooManyCopies 14 = .ok (.aload_n 0, 1) := by decide +kernel
theorem dX6_tooManyCopies_15 : decode cX6_tooManyCopies 15 = .ok (.getfield 148, 3) := by decide +kernel
theorem dX6_tooManyCopies_18 : decode cX6_tooManyCopies 18 = .ok (.invokevirtual 160, 3) := by decide +kernel
theorem dX6_tooManyCopies_21 : decode cX6_tooManyCopies 21 = .ok (.aload_n 0, 1) := by decide +kernel
theorem dX6_tooManyCopies_22 : decode cX6_tooManyCopies 22 = .ok (.aload_n 0, 1) := by decide +kernel
theorem dX6_tooManyCopies_23 : decode cX6_tooManyCopies 23 = .ok (.getfield 157, 3) := by decide +kernel
theorem dX6_tooManyCopies_26 : decode cX6_tooManyCopies 26 = .ok (.iconst 3, 1) := by decide +kernel
theorem dX6_tooManyCopies_27 : decode cX6_tooManyCopies 27 = .ok (.invokevirtual 81, 3) := by decide +kernel
theorem dX6_tooManyCopies_30 : decode cX6_tooManyCopies 30 = .ok (.if_icmp .le 10, 3) := by decide +kernel
theorem dX6_tooManyCopies_33 : decode cX6_tooManyCopies 33 = .ok (.aload_n 0, 1) := by decide +kernel
theorem dX6_tooManyCopies_34 : decode cX6_tooManyCopies 34 = .ok (.getfield 148, 3) := by decide +kernel
theorem dX6_tooManyCopies_37 : decode cX6_tooManyCopies 37 = .ok (.goto 4, 3) := by decide +kernel
theorem dX6_tooManyCopies_40 : decode cX6_tooManyCopies 40 = .ok (.iconst (-1), 1) := by decide +kernel
theorem dX6_tooManyCopies_41 : decode cX6_tooManyCopies 41 = .ok (.istore_n 2, 1) := by decide +kernel
theorem dX6_tooManyCopies_42 : decode cX6_tooManyCopies 42 = .ok (.iconst 0, 1) := by decide +kernel
theorem dX6_tooManyCopies_43 : decode cX6_tooManyCopies 43 = .ok (.istore_n 3, 1) := by decide +kernel
theorem dX6_tooManyCopies_44 : decode cX6_tooManyCopies 44 = .ok (.iload_n 3, 1) := by decide +kernel
theorem dX6_tooManyCopies_45 : decode cX6_tooManyCopies 45 = .ok (.aload_n 0, 1) := by decide +kernel
theorem dX6_tooManyCopies_46 : decode cX6_tooManyCopies 46 = .ok (.getfield 9, 3) := by decide +kernel
theorem dX6_tooManyCopies_49 : decode cX6_tooManyCopies 49 = .ok (.iconst 4, 1) := by decide +kernel
theorem dX6_tooManyCopies_50 : decode cX6_tooManyCopies 50 = .ok (.iaload, 1) := by decide +kernel
theorem dX6_tooManyCopies_51 : decode cX6_tooManyCopies 51 = .ok (.if_icmp .ge 72, 3) := by decide +kernel
theorem dX6_tooManyCopies_54 : decode cX6_tooManyCopies 54 = .ok (.aload_n 0, 1) := by decide +kernel
theorem dX6_tooManyCopies_55 : decode cX6_tooManyCopies 55 = .ok (.iload_n 3, 1) := by decide +kernel
theorem dX6_tooManyCopies_56 : decode cX6_tooManyCopies 56 = .ok (.iconst 3, 1) := by decide +kernel
theorem dX6_tooManyCopies_57 : decode cX6_tooManyCopies 57 = .ok (.invokevirtual 89, 3) := by decide +kernel
theorem dX6_tooManyCopies_60 : decode cX6_tooManyCopies 60 = .ok (.istore 4, 2) := by decide +kernel
theorem dX6_tooManyCopies_62 : decode cX6_tooManyCopies 62 = .ok (.aload_n 0, 1) := by decide +kernel
theorem dX6_tooManyCopies_63 : decode cX6_tooManyCopies 63 = .ok (.iload_n 3, 1) := by decide +kernel
theorem dX6_tooManyCopies_64 : decode cX6_tooManyCopies 64 = .ok (.invokevirtual 145, 3) := by decide +kernel
theorem dX6_tooManyCopies_67 : decode cX6_tooManyCopies 67 = .ok (.ifCond .eq 50, 3) := by decide +kernel
theorem dX6_tooManyCopies_70 : decode cX6_tooManyCopies 70 = .ok (.iload 4, 2) := by decide +kernel
theorem dX6_tooManyCopies_72 : decode cX6_tooManyCopies 72 = .ok (.aload_n 0, 1) := by decide +kernel
theorem dX6_tooManyCopies_73 : decode cX6_tooManyCopies 73 = .ok (.getfield 148, 3) := by decide +kernel
theorem dX6_tooManyCopies_76 : decode cX6_tooManyCopies 76 = .ok (.if_icmp .le 41, 3) := by decide +kernel
theorem dX6_tooManyCopies_79 : decode cX6_tooManyCopies 79 = .ok (.iload 4, 2) := by decide +kernel
theorem dX6_tooManyCopies_81 : decode cX6_tooManyCopies 81 = .ok (.iload_n 1, 1) := by decide +kernel
theorem dX6_tooManyCopies_82 : decode cX6_tooManyCopies 82 = .ok (.if_icmp .ge 35, 3) := by decide +kernel
theorem dX6_tooManyCopies_85 : decode cX6_tooManyCopies 85 = .ok (.iload_n 2, 1) := by decide +kernel
theorem dX6_tooManyCopies_86 : decode cX6_tooManyCopies 86 = .ok (.iconst (-1), 1) := by decide +kernel
theorem dX6_tooManyCopies_87 : decode cX6_tooManyCopies 87 = .ok (.if_icmp .eq 9, 3) := by decide +kernel
theorem dX6_tooManyCopies_90 : decode cX6_tooManyCopies 90 = .ok (.iload 4, 2) := by decide +kernel
theorem dX6_tooManyCopies_92 : decode cX6_tooManyCopies 92 = .ok (.iload_n 2, 1) := by decide +kernel
theorem dX6_tooManyCopies_93 : decode cX6_tooManyCopies 93 = .ok (.if_icmp .ge 24, 3) := by decide +kernel
theorem dX6_tooManyCopies_96 : decode cX6_tooManyCopies 96 = .ok (.aload_n 0, 1) := by decide +kernel
theorem dX6_tooManyCopies_97 : decode cX6_tooManyCopies 97 = .ok (.iload 4, 2) := by decide +kernel
theorem dX6_tooManyCopies_99 : decode cX6_tooManyCopies 99 = .ok (.invokevirtual 160, 3) := by decide +kernel
theorem dX6_tooManyCopies_102 : decode cX6_tooManyCopies 102 = .ok (.aload_n 0, 1) := by decide +kernel
theorem dX6_tooManyCopies_103 : decode cX6_tooManyCopies 103 = .ok (.aload_n 0, 1) := by decide +kernel
theorem dX6_tooManyCopies_104 : decode cX6_tooManyCopies 104 = .ok (.getfield 157, 3) := by decide +kernel
theorem dX6_tooManyCopies_107 : decode cX6_tooManyCopies 107 = .ok (.iconst 3, 1) := by decide +kernel
theorem dX6_tooManyCopies_108 : decode cX6_tooManyCopies 108 = .ok (.invokevirtual 81, 3) := by decide +kernel
theorem dX6_tooManyCopies_111 : decode cX6_tooManyCopies 111 = .ok (.if_icmp .le 6, 3) := by decide +kernel
theorem dX6_tooManyCopies_114 : decode cX6_tooManyCopies 114 = .ok (.iload 4, 2) := by decide +kernel
theorem dX6_tooManyCopies_116 : decode cX6_tooManyCopies 116 = .ok (.istore_n 2, 1) := by decide +kernel
theorem dX6_tooManyCopies_117 : decode cX6_tooManyCopies 117 = .ok (.iinc 3 1, 3) := by decide +kernel
theorem dX6_tooManyCopies_120 : decode cX6_tooManyCopies 120 = .ok (.goto (-76), 3) := by decide +kernel
theorem dX6_tooManyCopies_123 : decode cX6_tooManyCopies 123 = .ok (.iload_n 2, 1) := by decide +kernel
theorem dX6_tooManyCopies_124 : decode cX6_tooManyCopies 124 = .ok (.ireturn, 1) := by decide +kernel
set_option maxRecDepth 20000 in
theorem ggX6_meetsAtExit_X6_endOf : GoodIn wsX6_meetsAtExit wsX6_endOf := goodIn_ca (goodIn_r _ [8, 9, 10, 11, 7, 12, 1, 13, 14, 15, 16, 17, 18, 19, 20, 35, 36, 37, 38, 39, 40, 41, 42, 43, 44, 45, 46, 47, 48, 49, 50, 51, 52, 53, 54, 55, 56, 57, 58, 59, 60, 61] (by decide +kernel) (by decide +kernel)) (goodIn_sub (fun _ h => List.mem_cons_of_mem _ (List.mem_append_right _ h)) (by decide +kernel))
set_option maxRecDepth 20000 in
theorem gX6_meetsAtExit_X6_endOf : GoodIn wsX6_meetsAtExit (wsV RX6 151 RX6 yX6_endOf wsX6_endOf) := goodIn_app (goodIn_of _ (by decide +kernel)) ggX6_meetsAtExit_X6_endOf
set_option maxRecDepth 20000 in
theorem ggX6_meetsAtExit_X6_isOther : GoodIn wsX6_meetsAtExit wsX6_isOther := goodIn_ca (goodIn_r _ [24, 25, 26, 27, 28, 29, 7, 30, 9, 10, 11, 12, 1, 35, 36, 37, 38, 39, 40, 41, 42, 43, 44, 45, 46, 47, 48, 49, 50, 51, 52, 53, 54, 55, 56, 57, 58, 59, 60, 61] (by decide +kernel) (by decide +kernel)) (goodIn_sub (fun _ h => List.mem_cons_of_mem _ (List.mem_append_right _ h)) (by decide +kernel))
set_option maxRecDepth 20000 in
theorem gX6_meetsAtExit_X6_isOther : GoodIn wsX6_meetsAtExit (wsV RX6 145 RX6 yX6_isOther wsX6_isOther) := goodIn_app (goodIn_of _ (by decide +kernel)) ggX6_meetsAtExit_X6_isOther
set_option maxRecDepth 20000 in
theorem ggX6_meetsAtExit_X6_showAt : GoodIn wsX6_meetsAtExit wsX6_showAt := goodIn_ca (goodIn_r _ [12, 1, 35, 36, 37, 38, 39, 40, 41, 42, 43, 44, 45, 46, 47, 48, 49, 50, 51, 52, 53, 54, 55, 56, 57, 58, 59, 60, 61] (by decide +kernel) (by decide +kernel)) (goodIn_sub (fun _ h => List.mem_cons_of_mem _ (List.mem_append_right _ h)) (by decide +kernel))
set_option maxRecDepth 20000 in
theorem gX6_meetsAtExit_X6_showAt : GoodIn wsX6_meetsAtExit (wsV RX6 89 RX6 yX6_showAt wsX6_showAt) := goodIn_app (goodIn_of _ (by decide +kernel)) ggX6_meetsAtExit_X6_showAt
set_option maxRecDepth 20000 in
theorem ggX6_meetsAtExit_X6_hallAt : GoodIn wsX6_meetsAtExit wsX6_hallAt := goodIn_ca (goodIn_r _ [34, 1, 35, 36, 37, 38, 39, 40, 41, 42, 43, 44, 45, 46, 47, 48, 49, 50, 51, 52, 53, 54, 55, 56, 57, 58, 59, 60, 61] (by decide +kernel) (by decide +kernel)) (goodIn_sub (fun _ h => List.mem_cons_of_mem _ (List.mem_append_right _ h)) (by decide +kernel))
set_option maxRecDepth 20000 in
theorem gX6_meetsAtExit_X6_hallAt : GoodIn wsX6_meetsAtExit (wsV RX6 95 RX6 yX6_hallAt wsX6_hallAt) := goodIn_app (goodIn_of _ (by decide +kernel)) ggX6_meetsAtExit_X6_hallAt
theorem dX6_meetsAtExit_0 : decode cX6_meetsAtExit 0 = .ok (.iconst 0, 1) := by decide +kernel
theorem dX6_meetsAtExit_1 : decode cX6_meetsAtExit 1 = .ok (.istore_n 1, 1) := by decide +kernel
theorem dX6_meetsAtExit_2 : decode cX6_meetsAtExit 2 = .ok (.iload_n 1, 1) := by decide +kernel
theorem dX6_meetsAtExit_3 : decode cX6_meetsAtExit 3 = .ok (.aload_n 0, 1) := by decide +kernel
theorem dX6_meetsAtExit_4 : decode cX6_meetsAtExit 4 = .ok (.getfield 9, 3) := by decide +kernel
theorem dX6_meetsAtExit_7 : decode cX6_meetsAtExit 7 = .ok (.iconst 4, 1) := by decide +kernel
theorem dX6_meetsAtExit_8 : decode cX6_meetsAtExit 8 = .ok (.iaload, 1) := by decide +kernel
theorem dX6_meetsAtExit_9 : decode cX6_meetsAtExit 9 = .ok (.if_icmp .ge 73, 3) := by decide +kernel
theorem dX6_meetsAtExit_12 : decode cX6_meetsAtExit 12 = .ok (.aload_n 0, 1) := by decide +kernel
theorem dX6_meetsAtExit_13 : decode cX6_meetsAtExit 13 = .ok (.iload_n 1, 1) := by decide +kernel
theorem dX6_meetsAtExit_14 : decode cX6_meetsAtExit 14 = .ok (.invokevirtual 151, 3) := by decide +kernel
theorem dX6_meetsAtExit_17 : decode cX6_meetsAtExit 17 = .ok (.aload_n 0, 1) := by decide +kernel
theorem dX6_meetsAtExit_18 : decode cX6_meetsAtExit 18 = .ok (.getfield 139, 3) := by decide +kernel
theorem dX6_meetsAtExit_21 : decode cX6_meetsAtExit 21 = .ok (.isub, 1) := by decide +kernel
theorem dX6_meetsAtExit_22 : decode cX6_meetsAtExit 22 = .ok (.istore_n 2, 1) := by decide +kernel
theorem dX6_meetsAtExit_23 : decode cX6_meetsAtExit 23 = .ok (.aload_n 0, 1) := by decide +kernel
theorem dX6_meetsAtExit_24 : decode cX6_meetsAtExit 24 = .ok (.iload_n 1, 1) := by decide +kernel
theorem dX6_meetsAtExit_25 : decode cX6_meetsAtExit 25 = .ok (.invokevirtual 145, 3) := by decide +kernel
theorem dX6_meetsAtExit_28 : decode cX6_meetsAtExit 28 = .ok (.ifCond .eq 48, 3) := by decide +kernel
theorem dX6_meetsAtExit_31 : decode cX6_meetsAtExit 31 = .ok (.aload_n 0, 1) := by decide +kernel
theorem dX6_meetsAtExit_32 : decode cX6_meetsAtExit 32 = .ok (.aload_n 0, 1) := by decide +kernel
theorem dX6_meetsAtExit_33 : decode cX6_meetsAtExit 33 = .ok (.iload_n 1, 1) := by decide +kernel
theorem dX6_meetsAtExit_34 : decode cX6_meetsAtExit 34 = .ok (.iconst 0, 1) := by decide +kernel
theorem dX6_meetsAtExit_35 : decode cX6_meetsAtExit 35 = .ok (.invokevirtual 89, 3) := by decide +kernel
theorem dX6_meetsAtExit_38 : decode cX6_meetsAtExit 38 = .ok (.iconst 2, 1) := by decide +kernel
theorem dX6_meetsAtExit_39 : decode cX6_meetsAtExit 39 = .ok (.invokevirtual 95, 3) := by decide +kernel
theorem dX6_meetsAtExit_42 : decode cX6_meetsAtExit 42 = .ok (.aload_n 0, 1) := by decide +kernel
theorem dX6_meetsAtExit_43 : decode cX6_meetsAtExit 43 = .ok (.aload_n 0, 1) := by decide +kernel
theorem dX6_meetsAtExit_44 : decode cX6_meetsAtExit 44 = .ok (.getfield 142, 3) := by decide +kernel
theorem dX6_meetsAtExit_47 : decode cX6_meetsAtExit 47 = .ok (.iconst 2, 1) := by decide +kernel
theorem dX6_meetsAtExit_48 : decode cX6_meetsAtExit 48 = .ok (.invokevirtual 95, 3) := by decide +kernel
theorem dX6_meetsAtExit_51 : decode cX6_meetsAtExit 51 = .ok (.if_icmp .ne 25, 3) := by decide +kernel
theorem dX6_meetsAtExit_54 : decode cX6_meetsAtExit 54 = .ok (.iload_n 2, 1) := by decide +kernel
theorem dX6_meetsAtExit_55 : decode cX6_meetsAtExit 55 = .ok (.ifCond .ge 8, 3) := by decide +kernel
theorem dX6_meetsAtExit_58 : decode cX6_meetsAtExit 58 = .ok (.iload_n 2, 1) := by decide +kernel
theorem dX6_meetsAtExit_59 : decode cX6_meetsAtExit 59 = .ok (.ineg, 1) := by decide +kernel
theorem dX6_meetsAtExit_60 : decode cX6_meetsAtExit 60 = .ok (.goto 4, 3) := by decide +kernel
theorem dX6_meetsAtExit_63 : decode cX6_meetsAtExit 63 = .ok (.iload_n 2, 1) := by decide +kernel
theorem dX6_meetsAtExit_64 : decode cX6_meetsAtExit 64 = .ok (.aload_n 0, 1) := by decide +kernel
theorem dX6_meetsAtExit_65 : decode cX6_meetsAtExit 65 = .ok (.getfield 9, 3) := by decide +kernel
theorem dX6_meetsAtExit_68 : decode cX6_meetsAtExit 68 = .ok (.bipush 8, 2) := by decide +kernel
theorem dX6_meetsAtExit_70 : decode cX6_meetsAtExit 70 = .ok (.iaload, 1) := by decide +kernel
theorem dX6_meetsAtExit_71 : decode cX6_meetsAtExit 71 = .ok (.if_icmp .ge 5, 3) := by decide +kernel
theorem dX6_meetsAtExit_74 : decode cX6_meetsAtExit 74 = .ok (.iload_n 1, 1) := by decide +kernel
theorem dX6_meetsAtExit_75 : decode cX6_meetsAtExit 75 = .ok (.ireturn, 1) := by decide +kernel
theorem dX6_meetsAtExit_76 : decode cX6_meetsAtExit 76 = .ok (.iinc 1 1, 3) := by decide +kernel
theorem dX6_meetsAtExit_79 : decode cX6_meetsAtExit 79 = .ok (.goto (-77), 3) := by decide +kernel
theorem dX6_meetsAtExit_82 : decode cX6_meetsAtExit 82 = .ok (.iconst (-1), 1) := by decide +kernel
theorem dX6_meetsAtExit_83 : decode cX6_meetsAtExit 83 = .ok (.ireturn, 1) := by decide +kernel
set_option maxRecDepth 20000 in
theorem ggX6_cleanedAt_X6_isOther : GoodIn wsX6_cleanedAt wsX6_isOther := goodIn_ca (goodIn_r _ [6, 7, 8, 9, 10, 11, 5, 12, 13, 14, 15, 16, 1, 40, 41, 42, 43, 44, 45, 46, 47, 48, 49, 50, 51, 52, 53, 54, 55, 56, 57, 58, 59, 60, 61, 62, 63, 64, 65, 66] (by decide +kernel) (by decide +kernel)) (goodIn_sub (fun _ h => List.mem_cons_of_mem _ (List.mem_append_right _ h)) (by decide +kernel))
set_option maxRecDepth 20000 in
theorem gX6_cleanedAt_X6_isOther : GoodIn wsX6_cleanedAt (wsV RX6 145 RX6 yX6_isOther wsX6_isOther) := goodIn_app (goodIn_of _ (by decide +kernel)) ggX6_cleanedAt_X6_isOther
set_option maxRecDepth 20000 in
theorem ggX6_cleanedAt_X6_endOf : GoodIn wsX6_cleanedAt wsX6_endOf := goodIn_ca (goodIn_r _ [20, 13, 14, 15, 5, 16, 1, 21, 22, 23, 24, 25, 26, 27, 28, 40, 41, 42, 43, 44, 45, 46, 47, 48, 49, 50, 51, 52, 53, 54, 55, 56, 57, 58, 59, 60, 61, 62, 63, 64, 65, 66] (by decide +kernel) (by decide +kernel)) (goodIn_sub (fun _ h => List.mem_cons_of_mem _ (List.mem_append_right _ h)) (by decide +kernel))
set_option maxRecDepth 20000 in
theorem gX6_cleanedAt_X6_endOf : GoodIn wsX6_cleanedAt (wsV RX6 151 RX6 yX6_endOf wsX6_endOf) := goodIn_app (goodIn_of _ (by decide +kernel)) ggX6_cleanedAt_X6_endOf
set_option maxRecDepth 20000 in
theorem ggX6_cleanedAt_X6_cleanOf : GoodIn wsX6_cleanedAt wsX6_cleanOf := goodIn_ca (goodIn_r _ [32, 13, 14, 15, 5, 16, 1, 33, 34, 35, 36, 40, 41, 42, 43, 44, 45, 46, 47, 48, 49, 50, 51, 52, 53, 54, 55, 56, 57, 58, 59, 60, 61, 62, 63, 64, 65, 66] (by decide +kernel) (by decide +kernel)) (goodIn_sub (fun _ h => List.mem_cons_of_mem _ (List.mem_append_right _ h)) (by decide +kernel))
set_option maxRecDepth 20000 in
theorem gX6_cleanedAt_X6_cleanOf : GoodIn wsX6_cleanedAt (wsV RX6 154 RX6 yX6_cleanOf wsX6_cleanOf) := goodIn_app (goodIn_of _ (by decide +kernel)) ggX6_cleanedAt_X6_cleanOf
set_option maxRecDepth 20000 in
theorem ggX6_cleanedAt_X6_in : GoodIn wsX6_cleanedAt wsX6_in := goodIn_r _ [39] (by decide +kernel) (by decide +kernel)
set_option maxRecDepth 20000 in
theorem gX6_cleanedAt_X6_in : GoodIn wsX6_cleanedAt (va_wsS RX6 64 yX6_in wsX6_in) := goodIn_app (goodIn_of _ (by decide +kernel)) ggX6_cleanedAt_X6_in
theorem dX6_cleanedAt_0 : decode cX6_cleanedAt 0 = .ok (.iconst 1, 1) := by decide +kernel
theorem dX6_cleanedAt_1 : decode cX6_cleanedAt 1 = .ok (.istore_n 2, 1) := by decide +kernel
theorem dX6_cleanedAt_2 : decode cX6_cleanedAt 2 = .ok (.iconst 0, 1) := by decide +kernel
theorem dX6_cleanedAt_3 : decode cX6_cleanedAt 3 = .ok (.istore_n 3, 1) := by decide +kernel
theorem dX6_cleanedAt_4 : decode cX6_cleanedAt 4 = .ok (.iload_n 3, 1) := by decide +kernel
theorem dX6_cleanedAt_5 : decode cX6_cleanedAt 5 = .ok (.aload_n 0, 1) := by decide +kernel
theorem dX6_cleanedAt_6 : decode cX6_cleanedAt 6 = .ok (.getfield 9, 3) := by decide +kernel
theorem dX6_cleanedAt_9 : decode cX6_cleanedAt 9 = .ok (.iconst 4, 1) := by decide +kernel
theorem dX6_cleanedAt_10 : decode cX6_cleanedAt 10 = .ok (.iaload, 1) := by decide +kernel
theorem dX6_cleanedAt_11 : decode cX6_cleanedAt 11 = .ok (.if_icmp .ge 50, 3) := by decide +kernel
theorem dX6_cleanedAt_14 : decode cX6_cleanedAt 14 = .ok (.iload_n 2, 1) := by decide +kernel
theorem dX6_cleanedAt_15 : decode cX6_cleanedAt 15 = .ok (.aload_n 0, 1) := by decide +kernel
theorem dX6_cleanedAt_16 : decode cX6_cleanedAt 16 = .ok (.iload_n 3, 1) := by decide +kernel
theorem dX6_cleanedAt_17 : decode cX6_cleanedAt 17 = .ok (.invokevirtual 145, 3) := by decide +kernel
theorem dX6_cleanedAt_20 : decode cX6_cleanedAt 20 = .ok (.ifCond .eq 32, 3) := by decide +kernel
theorem dX6_cleanedAt_23 : decode cX6_cleanedAt 23 = .ok (.iload_n 1, 1) := by decide +kernel
theorem dX6_cleanedAt_24 : decode cX6_cleanedAt 24 = .ok (.aload_n 0, 1) := by decide +kernel
theorem dX6_cleanedAt_25 : decode cX6_cleanedAt 25 = .ok (.iload_n 3, 1) := by decide +kernel
theorem dX6_cleanedAt_26 : decode cX6_cleanedAt 26 = .ok (.invokevirtual 151, 3) := by decide +kernel
theorem dX6_cleanedAt_29 : decode cX6_cleanedAt 29 = .ok (.aload_n 0, 1) := by decide +kernel
theorem dX6_cleanedAt_30 : decode cX6_cleanedAt 30 = .ok (.iload_n 3, 1) := by decide +kernel
theorem dX6_cleanedAt_31 : decode cX6_cleanedAt 31 = .ok (.invokevirtual 151, 3) := by decide +kernel
theorem dX6_cleanedAt_34 : decode cX6_cleanedAt 34 = .ok (.aload_n 0, 1) := by decide +kernel
theorem dX6_cleanedAt_35 : decode cX6_cleanedAt 35 = .ok (.iload_n 3, 1) := by decide +kernel
theorem dX6_cleanedAt_36 : decode cX6_cleanedAt 36 = .ok (.invokevirtual 154, 3) := by decide +kernel
theorem dX6_cleanedAt_39 : decode cX6_cleanedAt 39 = .ok (.iadd, 1) := by decide +kernel
theorem dX6_cleanedAt_40 : decode cX6_cleanedAt 40 = .ok (.iconst 1, 1) := by decide +kernel
theorem dX6_cleanedAt_41 : decode cX6_cleanedAt 41 = .ok (.isub, 1) := by decide +kernel
theorem dX6_cleanedAt_42 : decode cX6_cleanedAt 42 = .ok (.invokestatic 64, 3) := by decide +kernel
theorem dX6_cleanedAt_45 : decode cX6_cleanedAt 45 = .ok (.ifCond .eq 7, 3) := by decide +kernel
theorem dX6_cleanedAt_48 : decode cX6_cleanedAt 48 = .ok (.iconst 1, 1) := by decide +kernel
theorem dX6_cleanedAt_49 : decode cX6_cleanedAt 49 = .ok (.goto 4, 3) := by decide +kernel
theorem dX6_cleanedAt_52 : decode cX6_cleanedAt 52 = .ok (.iconst 0, 1) := by decide +kernel
theorem dX6_cleanedAt_53 : decode cX6_cleanedAt 53 = .ok (.iadd, 1) := by decide +kernel
theorem dX6_cleanedAt_54 : decode cX6_cleanedAt 54 = .ok (.istore_n 2, 1) := by decide +kernel
theorem dX6_cleanedAt_55 : decode cX6_cleanedAt 55 = .ok (.iinc 3 1, 3) := by decide +kernel
theorem dX6_cleanedAt_58 : decode cX6_cleanedAt 58 = .ok (.goto (-54), 3) := by decide +kernel
theorem dX6_cleanedAt_61 : decode cX6_cleanedAt 61 = .ok (.iload_n 2, 1) := by decide +kernel
theorem dX6_cleanedAt_62 : decode cX6_cleanedAt 62 = .ok (.ireturn, 1) := by decide +kernel
set_option maxRecDepth 20000 in
theorem ggX6_tooManyCleaned_X6_hallAt : GoodIn wsX6_tooManyCleaned wsX6_hallAt := goodIn_ca (goodIn_r _ [8, 3, 46, 47, 48, 49, 50, 51, 52, 53, 54, 55, 56, 57, 58, 59, 60, 61, 62, 63, 64, 65, 66, 67, 68, 69, 70, 71, 72] (by decide +kernel) (by decide +kernel)) (goodIn_sub (fun _ h => List.mem_cons_of_mem _ (List.mem_append_right _ h)) (by decide +kernel))
set_option maxRecDepth 20000 in
theorem gX6_tooManyCleaned_X6_hallAt : GoodIn wsX6_tooManyCleaned (wsV RX6 95 RX6 yX6_hallAt wsX6_hallAt) := goodIn_app (goodIn_of _ (by decide +kernel)) ggX6_tooManyCleaned_X6_hallAt
set_option maxRecDepth 20000 in
theorem ggX6_tooManyCleaned_X6_cleanedAt : GoodIn wsX6_tooManyCleaned wsX6_cleanedAt := goodIn_ca (goodIn_r _ [12, 3, 13, 14, 15, 7, 16, 17, 18, 19, 20, 21, 22, 23, 24, 25, 26, 27, 28, 29, 30, 31, 32, 33, 34, 35, 36, 37, 38, 39, 40, 41, 42, 4, 5, 6, 8, 43, 44, 45, 46, 47, 48, 49, 50, 51, 52, 53, 54, 55, 56, 57, 58, 59, 60, 61, 62, 63, 64, 65, 66, 67, 68, 69, 70, 71, 72] (by decide +kernel) (by decide +kernel)) (goodIn_sub (fun _ h => List.mem_cons_of_mem _ (List.mem_append_right _ h)) (by decide +kernel))
set_option maxRecDepth 20000 in
theorem gX6_tooManyCleaned_X6_cleanedAt : GoodIn wsX6_tooManyCleaned (wsV RX6 163 RX6 yX6_cleanedAt wsX6_cleanedAt) := goodIn_app (goodIn_of _ (by decide +kernel)) ggX6_tooManyCleaned_X6_cleanedAt
set_option maxRecDepth 20000 in
theorem ggX6_tooManyCleaned_X6_endOf : GoodIn wsX6_tooManyCleaned wsX6_endOf := goodIn_ca (goodIn_r _ [30, 23, 24, 25, 7, 26, 3, 31, 32, 33, 34, 35, 36, 37, 38, 46, 47, 48, 49, 50, 51, 52, 53, 54, 55, 56, 57, 58, 59, 60, 61, 62, 63, 64, 65, 66, 67, 68, 69, 70, 71, 72] (by decide +kernel) (by decide +kernel)) (goodIn_sub (fun _ h => List.mem_cons_of_mem _ (List.mem_append_right _ h)) (by decide +kernel))
set_option maxRecDepth 20000 in
theorem gX6_tooManyCleaned_X6_endOf : GoodIn wsX6_tooManyCleaned (wsV RX6 151 RX6 yX6_endOf wsX6_endOf) := goodIn_app (goodIn_of _ (by decide +kernel)) ggX6_tooManyCleaned_X6_endOf
set_option maxRecDepth 20000 in
theorem ggX6_tooManyCleaned_X6_isOther : GoodIn wsX6_tooManyCleaned wsX6_isOther := goodIn_ca (goodIn_r _ [16, 17, 18, 19, 20, 21, 7, 22, 23, 24, 25, 26, 3, 46, 47, 48, 49, 50, 51, 52, 53, 54, 55, 56, 57, 58, 59, 60, 61, 62, 63, 64, 65, 66, 67, 68, 69, 70, 71, 72] (by decide +kernel) (by decide +kernel)) (goodIn_sub (fun _ h => List.mem_cons_of_mem _ (List.mem_append_right _ h)) (by decide +kernel))
set_option maxRecDepth 20000 in
theorem gX6_tooManyCleaned_X6_isOther : GoodIn wsX6_tooManyCleaned (wsV RX6 145 RX6 yX6_isOther wsX6_isOther) := goodIn_app (goodIn_of _ (by decide +kernel)) ggX6_tooManyCleaned_X6_isOther
theorem dX6_tooManyCleaned_0 : decode cX6_tooManyCleaned 0 = .ok (.aload_n 0, 1) := by decide +kernel
theorem dX6_tooManyCleaned_1 : decode cX6_tooManyCleaned 1 = .ok (.aload_n 0, 1) := by decide +kernel
theorem dX6_tooManyCleaned_2 : decode cX6_tooManyCleaned 2 = .ok (.getfield 142, 3) := by decide +kernel
theorem dX6_tooManyCleaned_5 : decode cX6_tooManyCleaned 5 = .ok (.iconst 1, 1) := by decide +kernel
theorem dX6_tooManyCleaned_6 : decode cX6_tooManyCleaned 6 = .ok (.invokevirtual 95, 3) := by decide +kernel
theorem dX6_tooManyCleaned_9 : decode cX6_tooManyCleaned 9 = .ok (.istore_n 1, 1) := by decide +kernel
theorem dX6_tooManyCleaned_10 : decode cX6_tooManyCleaned 10 = .ok (.iload_n 1, 1) := by decide +kernel
theorem dX6_tooManyCleaned_11 : decode cX6_tooManyCleaned 11 = .ok (.ifCond .ne 5, 3) := by decide +kernel
theorem dX6_tooManyCleaned_14 : decode cX6_tooManyCleaned 14 = .ok (.iconst (-1), 1) := by decide +kernel
theorem dX6_tooManyCleaned_15 : decode cX6_tooManyCleaned 15 = .ok (.ireturn, 1) := by decide +kernel
theorem dX6_tooManyCleaned_16 : decode cX6_tooManyCleaned 16 = .ok (.aload_n 0, 1) := by decide +kernel
theorem dX6_tooManyCleaned_17 : decode cX6_tooManyCleaned 17 = .ok (.aload_n 0, 1) := by decide +kernel
theorem dX6_tooManyCleaned_18 : decode cX6_tooManyCleaned 18 = .ok (.getfield 139, 3) := by decide +kernel
theorem dX6_tooManyCleaned_21 : decode cX6_tooManyCleaned 21 = .ok (.invokevirtual 163, 3) := by decide +kernel
theorem dX6_tooManyCleaned_24 : decode cX6_tooManyCleaned 24 = .ok (.aload_n 0, 1) := by decide +kernel
theorem dX6_tooManyCleaned_25 : decode cX6_tooManyCleaned 25 = .ok (.getfield 9, 3) := by decide +kernel
theorem dX6_tooManyCleaned_28 : decode cX6_tooManyCleaned 28 = .ok (.bipush 9, 2) := by decide +kernel
theorem dX6_tooManyCleaned_30 : decode cX6_tooManyCleaned 30 = .ok (.iaload, 1) := by decide +kernel
theorem dX6_tooManyCleaned_31 : decode cX6_tooManyCleaned 31 = .ok (.if_icmp .le 10, 3) := by decide +kernel
theorem dX6_tooManyCleaned_34 : decode cX6_tooManyCleaned 34 = .ok (.aload_n 0, 1) := by decide +kernel
theorem dX6_tooManyCleaned_35 : decode cX6_tooManyCleaned 35 = .ok (.getfield 139, 3) := by decide +kernel
theorem dX6_tooManyCleaned_38 : decode cX6_tooManyCleaned 38 = .ok (.goto 4, 3) := by decide +kernel
theorem dX6_tooManyCleaned_41 : decode cX6_tooManyCleaned 41 = .ok (.iconst (-1), 1) := by decide +kernel
theorem dX6_tooManyCleaned_42 : decode cX6_tooManyCleaned 42 = .ok (.istore_n 2, 1) := by decide +kernel
theorem dX6_tooManyCleaned_43 : decode cX6_tooManyCleaned 43 = .ok (.iconst 0, 1) := by decide +kernel
theorem dX6_tooManyCleaned_44 : decode cX6_tooManyCleaned 44 = .ok (.istore_n 3, 1) := by decide +kernel
theorem dX6_tooManyCleaned_45 : decode cX6_tooManyCleaned 45 = .ok (.iload_n 3, 1) := by decide +kernel
theorem dX6_tooManyCleaned_46 : decode cX6_tooManyCleaned 46 = .ok (.aload_n 0, 1) := by decide +kernel
theorem dX6_tooManyCleaned_47 : decode cX6_tooManyCleaned 47 = .ok (.getfield 9, 3) := by decide +kernel
theorem dX6_tooManyCleaned_50 : decode cX6_tooManyCleaned 50 = .ok (.iconst 4, 1) := by decide +kernel
theorem dX6_tooManyCleaned_51 : decode cX6_tooManyCleaned 51 = .ok (.iaload, 1) := by decide +kernel
theorem dX6_tooManyCleaned_52 : decode cX6_tooManyCleaned 52 = .ok (.if_icmp .ge 74, 3) := by decide +kernel
theorem dX6_tooManyCleaned_55 : decode cX6_tooManyCleaned 55 = .ok (.aload_n 0, 1) := by decide +kernel
theorem dX6_tooManyCleaned_56 : decode cX6_tooManyCleaned 56 = .ok (.iload_n 3, 1) := by decide +kernel
theorem dX6_tooManyCleaned_57 : decode cX6_tooManyCleaned 57 = .ok (.invokevirtual 151, 3) := by decide +kernel
theorem dX6_tooManyCleaned_60 : decode cX6_tooManyCleaned 60 = .ok (.istore 4, 2) := by decide +kernel
theorem dX6_tooManyCleaned_62 : decode cX6_tooManyCleaned 62 = .ok (.aload_n 0, 1) := by decide +kernel
theorem dX6_tooManyCleaned_63 : decode cX6_tooManyCleaned 63 = .ok (.iload_n 3, 1) := by decide +kernel
theorem dX6_tooManyCleaned_64 : decode cX6_tooManyCleaned 64 = .ok (.invokevirtual 145, 3) := by decide +kernel
theorem dX6_tooManyCleaned_67 : decode cX6_tooManyCleaned 67 = .ok (.ifCond .eq 53, 3) := by decide +kernel
theorem dX6_tooManyCleaned_70 : decode cX6_tooManyCleaned 70 = .ok (.iload 4, 2) := by decide +kernel
theorem dX6_tooManyCleaned_72 : decode cX6_tooManyCleaned 72 = .ok (.aload_n 0, 1) := by decide +kernel
theorem dX6_tooManyCleaned_73 : decode cX6_tooManyCleaned 73 = .ok (.getfield 139, 3) := by decide +kernel
theorem dX6_tooManyCleaned_76 : decode cX6_tooManyCleaned 76 = .ok (.if_icmp .le 44, 3) := by decide +kernel
theorem dX6_tooManyCleaned_79 : decode cX6_tooManyCleaned 79 = .ok (.iload 4, 2) := by decide +kernel
theorem dX6_tooManyCleaned_81 : decode cX6_tooManyCleaned 81 = .ok (.aload_n 0, 1) := by decide +kernel
theorem dX6_tooManyCleaned_82 : decode cX6_tooManyCleaned 82 = .ok (.getfield 139, 3) := by decide +kernel
theorem dX6_tooManyCleaned_85 : decode cX6_tooManyCleaned 85 = .ok (.iload_n 1, 1) := by decide +kernel
theorem dX6_tooManyCleaned_86 : decode cX6_tooManyCleaned 86 = .ok (.iadd, 1) := by decide +kernel
theorem dX6_tooManyCleaned_87 : decode cX6_tooManyCleaned 87 = .ok (.if_icmp .ge 33, 3) := by decide +kernel
theorem dX6_tooManyCleaned_90 : decode cX6_tooManyCleaned 90 = .ok (.iload_n 2, 1) := by decide +kernel
theorem dX6_tooManyCleaned_91 : decode cX6_tooManyCleaned 91 = .ok (.iconst (-1), 1) := by decide +kernel
theorem dX6_tooManyCleaned_92 : decode cX6_tooManyCleaned 92 = .ok (.if_icmp .eq 9, 3) := by decide +kernel
theorem dX6_tooManyCleaned_95 : decode cX6_tooManyCleaned 95 = .ok (.iload 4, 2) := by decide +kernel
theorem dX6_tooManyCleaned_97 : decode cX6_tooManyCleaned 97 = .ok (.iload_n 2, 1) := by decide +kernel
theorem dX6_tooManyCleaned_98 : decode cX6_tooManyCleaned 98 = .ok (.if_icmp .ge 22, 3) := by decide +kernel
theorem dX6_tooManyCleaned_101 : decode cX6_tooManyCleaned 101 = .ok (.aload_n 0, 1) := by decide +kernel
theorem dX6_tooManyCleaned_102 : decode cX6_tooManyCleaned 102 = .ok (.iload 4, 2) := by decide +kernel
theorem dX6_tooManyCleaned_104 : decode cX6_tooManyCleaned 104 = .ok (.invokevirtual 163, 3) := by decide +kernel
theorem dX6_tooManyCleaned_107 : decode cX6_tooManyCleaned 107 = .ok (.aload_n 0, 1) := by decide +kernel
theorem dX6_tooManyCleaned_108 : decode cX6_tooManyCleaned 108 = .ok (.getfield 9, 3) := by decide +kernel
theorem dX6_tooManyCleaned_111 : decode cX6_tooManyCleaned 111 = .ok (.bipush 9, 2) := by decide +kernel
theorem dX6_tooManyCleaned_113 : decode cX6_tooManyCleaned 113 = .ok (.iaload, 1) := by decide +kernel
theorem dX6_tooManyCleaned_114 : decode cX6_tooManyCleaned 114 = .ok (.if_icmp .le 6, 3) := by decide +kernel
theorem dX6_tooManyCleaned_117 : decode cX6_tooManyCleaned 117 = .ok (.iload 4, 2) := by decide +kernel
theorem dX6_tooManyCleaned_119 : decode cX6_tooManyCleaned 119 = .ok (.istore_n 2, 1) := by decide +kernel
theorem dX6_tooManyCleaned_120 : decode cX6_tooManyCleaned 120 = .ok (.iinc 3 1, 3) := by decide +kernel
theorem dX6_tooManyCleaned_123 : decode cX6_tooManyCleaned 123 = .ok (.goto (-78), 3) := by decide +kernel
theorem dX6_tooManyCleaned_126 : decode cX6_tooManyCleaned 126 = .ok (.iload_n 2, 1) := by decide +kernel
theorem dX6_tooManyCleaned_127 : decode cX6_tooManyCleaned 127 = .ok (.ireturn, 1) := by decide +kernel
set_option maxRecDepth 20000 in
theorem ggX6_isClosed_X6_hallAt : GoodIn wsX6_isClosed wsX6_hallAt := goodIn_ca (goodIn_r _ [5, 6, 7, 8, 9, 10, 11, 12, 13, 14, 15, 16, 17, 18, 19, 20, 21, 22, 23, 24, 25, 26, 27, 28, 29, 30, 31, 32, 33] (by decide +kernel) (by decide +kernel)) (goodIn_sub (fun _ h => List.mem_cons_of_mem _ (List.mem_append_right _ h)) (by decide +kernel))
set_option maxRecDepth 20000 in
theorem gX6_isClosed_X6_hallAt : GoodIn wsX6_isClosed (wsV RX6 95 RX6 yX6_hallAt wsX6_hallAt) := goodIn_app (goodIn_of _ (by decide +kernel)) ggX6_isClosed_X6_hallAt
theorem dX6_isClosed_0 : decode cX6_isClosed 0 = .ok (.aload_n 0, 1) := by decide +kernel
theorem dX6_isClosed_1 : decode cX6_isClosed 1 = .ok (.iload_n 1, 1) := by decide +kernel
theorem dX6_isClosed_2 : decode cX6_isClosed 2 = .ok (.iconst 3, 1) := by decide +kernel
theorem dX6_isClosed_3 : decode cX6_isClosed 3 = .ok (.invokevirtual 95, 3) := by decide +kernel
theorem dX6_isClosed_6 : decode cX6_isClosed 6 = .ok (.iconst (-1), 1) := by decide +kernel
theorem dX6_isClosed_7 : decode cX6_isClosed 7 = .ok (.if_icmp .eq 17, 3) := by decide +kernel
theorem dX6_isClosed_10 : decode cX6_isClosed 10 = .ok (.iload_n 2, 1) := by decide +kernel
theorem dX6_isClosed_11 : decode cX6_isClosed 11 = .ok (.aload_n 0, 1) := by decide +kernel
theorem dX6_isClosed_12 : decode cX6_isClosed 12 = .ok (.iload_n 1, 1) := by decide +kernel
theorem dX6_isClosed_13 : decode cX6_isClosed 13 = .ok (.iconst 3, 1) := by decide +kernel
theorem dX6_isClosed_14 : decode cX6_isClosed 14 = .ok (.invokevirtual 95, 3) := by decide +kernel
theorem dX6_isClosed_17 : decode cX6_isClosed 17 = .ok (.if_icmp .lt 7, 3) := by decide +kernel
theorem dX6_isClosed_20 : decode cX6_isClosed 20 = .ok (.iconst 1, 1) := by decide +kernel
theorem dX6_isClosed_21 : decode cX6_isClosed 21 = .ok (.goto 4, 3) := by decide +kernel
theorem dX6_isClosed_24 : decode cX6_isClosed 24 = .ok (.iconst 0, 1) := by decide +kernel
theorem dX6_isClosed_25 : decode cX6_isClosed 25 = .ok (.ireturn, 1) := by decide +kernel
theorem dX6_broken_0 : decode cX6_broken 0 = .ok (.aload_n 0, 1) := by decide +kernel
theorem dX6_broken_1 : decode cX6_broken 1 = .ok (.iload_n 2, 1) := by decide +kernel
theorem dX6_broken_2 : decode cX6_broken 2 = .ok (.putfield 166, 3) := by decide +kernel
theorem dX6_broken_5 : decode cX6_broken 5 = .ok (.iload_n 1, 1) := by decide +kernel
theorem dX6_broken_6 : decode cX6_broken 6 = .ok (.ireturn, 1) := by decide +kernel
set_option maxRecDepth 20000 in
theorem ggX6_breaks_X6_broken : GoodIn wsX6_breaks wsX6_broken := goodIn_r _ [12, 13, 77, 78, 79, 80, 81, 82, 83, 84, 85, 86, 87, 88, 89, 90, 91, 92, 93, 94, 95, 96, 97, 98, 99, 100, 101, 102, 103] (by decide +kernel) (by decide +kernel)
set_option maxRecDepth 20000 in
theorem gX6_breaks_X6_broken : GoodIn wsX6_breaks (wsV RX6 169 RX6 yX6_broken wsX6_broken) := goodIn_app (goodIn_of _ (by decide +kernel)) ggX6_breaks_X6_broken
set_option maxRecDepth 20000 in
theorem ggX6_breaks_X6_isClosed : GoodIn wsX6_breaks wsX6_isClosed := goodIn_ca (goodIn_r _ [17, 18, 19, 20, 11, 21, 7, 77, 78, 79, 80, 81, 82, 83, 84, 85, 86, 87, 88, 89, 90, 91, 92, 93, 94, 95, 96, 97, 98, 99, 100, 101, 102, 103] (by decide +kernel) (by decide +kernel)) (goodIn_sub (fun _ h => List.mem_cons_of_mem _ (List.mem_append_right _ h)) (by decide +kernel))
set_option maxRecDepth 20000 in
theorem gX6_breaks_X6_isClosed : GoodIn wsX6_breaks (wsV RX6 172 RX6 yX6_isClosed wsX6_isClosed) := goodIn_app (goodIn_of _ (by decide +kernel)) ggX6_breaks_X6_isClosed
set_option maxRecDepth 20000 in
theorem ggX6_breaks_X6_filmAt : GoodIn wsX6_breaks wsX6_filmAt := goodIn_ca (goodIn_r _ [25, 7, 77, 78, 79, 80, 81, 82, 83, 84, 85, 86, 87, 88, 89, 90, 91, 92, 93, 94, 95, 96, 97, 98, 99, 100, 101, 102, 103] (by decide +kernel) (by decide +kernel)) (goodIn_sub (fun _ h => List.mem_cons_of_mem _ (List.mem_append_right _ h)) (by decide +kernel))
set_option maxRecDepth 20000 in
theorem gX6_breaks_X6_filmAt : GoodIn wsX6_breaks (wsV RX6 81 RX6 yX6_filmAt wsX6_filmAt) := goodIn_app (goodIn_of _ (by decide +kernel)) ggX6_breaks_X6_filmAt
set_option maxRecDepth 20000 in
theorem ggX6_breaks_X6_meetsInHall : GoodIn wsX6_breaks wsX6_meetsInHall := goodIn_ca (goodIn_r _ [29, 5, 1, 7, 4, 18, 19, 20, 11, 21, 30, 31, 32, 33, 6, 3, 34, 35, 36, 37, 38, 39, 40, 41, 42, 43, 44, 45, 46, 47, 48, 49, 22, 23, 24, 25, 50, 51, 52, 53, 77, 78, 79, 80, 81, 82, 83, 84, 85, 86, 87, 88, 89, 90, 91, 92, 93, 94, 95, 96, 97, 98, 99, 100, 101, 102, 103] (by decide +kernel) (by decide +kernel)) (goodIn_sub (fun _ h => List.mem_cons_of_mem _ (List.mem_append_right _ h)) (by decide +kernel))
set_option maxRecDepth 20000 in
theorem gX6_breaks_X6_meetsInHall : GoodIn wsX6_breaks (wsV RX6 175 RX6 yX6_meetsInHall wsX6_meetsInHall) := goodIn_app (goodIn_of _ (by decide +kernel)) ggX6_breaks_X6_meetsInHall
set_option maxRecDepth 20000 in
theorem ggX6_breaks_X6_tooManyCopies : GoodIn wsX6_breaks wsX6_tooManyCopies := goodIn_ca (goodIn_r _ [57, 5, 7, 4, 2, 58, 59, 60, 11, 61, 30, 31, 32, 33, 6, 3, 34, 35, 36, 37, 38, 39, 40, 41, 42, 43, 44, 45, 46, 47, 48, 49, 22, 23, 24, 25, 62, 63, 64, 77, 78, 79, 80, 81, 82, 83, 84, 85, 86, 87, 88, 89, 90, 91, 92, 93, 94, 95, 96, 97, 98, 99, 100, 101, 102, 103] (by decide +kernel) (by decide +kernel)) (goodIn_sub (fun _ h => List.mem_cons_of_mem _ (List.mem_append_right _ h)) (by decide +kernel))
set_option maxRecDepth 20000 in
theorem gX6_breaks_X6_tooManyCopies : GoodIn wsX6_breaks (wsV RX6 179 RX6 yX6_tooManyCopies wsX6_tooManyCopies) := goodIn_app (goodIn_of _ (by decide +kernel)) ggX6_breaks_X6_tooManyCopies
set_option maxRecDepth 20000 in
theorem ggX6_breaks_X6_meetsAtExit : GoodIn wsX6_breaks wsX6_meetsAtExit := goodIn_ca (goodIn_r _ [68, 7, 5, 1, 42, 43, 44, 11, 45, 38, 39, 40, 41, 46, 47, 48, 49, 22, 23, 24, 25, 30, 31, 32, 33, 6, 3, 34, 35, 36, 37, 18, 19, 20, 21, 77, 78, 79, 80, 81, 82, 83, 84, 85, 86, 87, 88, 89, 90, 91, 92, 93, 94, 95, 96, 97, 98, 99, 100, 101, 102, 103] (by decide +kernel) (by decide +kernel)) (goodIn_sub (fun _ h => List.mem_cons_of_mem _ (List.mem_append_right _ h)) (by decide +kernel))
set_option maxRecDepth 20000 in
theorem gX6_breaks_X6_meetsAtExit : GoodIn wsX6_breaks (wsV RX6 182 RX6 yX6_meetsAtExit wsX6_meetsAtExit) := goodIn_app (goodIn_of _ (by decide +kernel)) ggX6_breaks_X6_meetsAtExit
set_option maxRecDepth 20000 in
theorem ggX6_breaks_X6_tooManyCleaned : GoodIn wsX6_breaks wsX6_tooManyCleaned := goodIn_ca (goodIn_r _ [72, 1, 5, 7, 18, 19, 20, 11, 21, 73, 74, 75, 76, 30, 31, 32, 33, 6, 3, 34, 35, 36, 37, 38, 39, 40, 41, 42, 43, 44, 45, 46, 47, 48, 49, 22, 23, 24, 25, 50, 51, 52, 53, 62, 63, 64, 77, 78, 79, 80, 81, 82, 83, 84, 85, 86, 87, 88, 89, 90, 91, 92, 93, 94, 95, 96, 97, 98, 99, 100, 101, 102, 103] (by decide +kernel) (by decide +kernel)) (goodIn_sub (fun _ h => List.mem_cons_of_mem _ (List.mem_append_right _ h)) (by decide +kernel))
set_option maxRecDepth 20000 in
theorem gX6_breaks_X6_tooManyCleaned : GoodIn wsX6_breaks (wsV RX6 185 RX6 yX6_tooManyCleaned wsX6_tooManyCleaned) := goodIn_app (goodIn_of _ (by decide +kernel)) ggX6_breaks_X6_tooManyCleaned
theorem dX6_breaks_0 : decode cX6_breaks 0 = .ok (.aload_n 0, 1) := by decide +kernel
theorem dX6_breaks_1 : decode cX6_breaks 1 = .ok (.iload_n 1, 1) := by decide +kernel
theorem dX6_breaks_2 : decode cX6_breaks 2 = .ok (.putfield 142, 3) := by decide +kernel
theorem dX6_breaks_5 : decode cX6_breaks 5 = .ok (.aload_n 0, 1) := by decide +kernel
theorem dX6_breaks_6 : decode cX6_breaks 6 = .ok (.iload_n 2, 1) := by decide +kernel
theorem dX6_breaks_7 : decode cX6_breaks 7 = .ok (.putfield 157, 3) := by decide +kernel
theorem dX6_breaks_10 : decode cX6_breaks 10 = .ok (.aload_n 0, 1) := by decide +kernel
theorem dX6_breaks_11 : decode cX6_breaks 11 = .ok (.iload_n 3, 1) := by decide +kernel
theorem dX6_breaks_12 : decode cX6_breaks 12 = .ok (.putfield 136, 3) := by decide +kernel
theorem dX6_breaks_15 : decode cX6_breaks 15 = .ok (.aload_n 0, 1) := by decide +kernel
theorem dX6_breaks_16 : decode cX6_breaks 16 = .ok (.iload 4, 2) := by decide +kernel
theorem dX6_breaks_18 : decode cX6_breaks 18 = .ok (.putfield 148, 3) := by decide +kernel
theorem dX6_breaks_21 : decode cX6_breaks 21 = .ok (.aload_n 0, 1) := by decide +kernel
theorem dX6_breaks_22 : decode cX6_breaks 22 = .ok (.iload 4, 2) := by decide +kernel
theorem dX6_breaks_24 : decode cX6_breaks 24 = .ok (.iload 5, 2) := by decide +kernel
theorem dX6_breaks_26 : decode cX6_breaks 26 = .ok (.iadd, 1) := by decide +kernel
theorem dX6_breaks_27 : decode cX6_breaks 27 = .ok (.putfield 139, 3) := by decide +kernel
theorem dX6_breaks_30 : decode cX6_breaks 30 = .ok (.aload_n 0, 1) := by decide +kernel
theorem dX6_breaks_31 : decode cX6_breaks 31 = .ok (.iload 6, 2) := by decide +kernel
theorem dX6_breaks_33 : decode cX6_breaks 33 = .ok (.putfield 133, 3) := by decide +kernel
theorem dX6_breaks_36 : decode cX6_breaks 36 = .ok (.iload_n 3, 1) := by decide +kernel
theorem dX6_breaks_37 : decode cX6_breaks 37 = .ok (.aload_n 0, 1) := by decide +kernel
theorem dX6_breaks_38 : decode cX6_breaks 38 = .ok (.getfield 9, 3) := by decide +kernel
theorem dX6_breaks_41 : decode cX6_breaks 41 = .ok (.iconst 0, 1) := by decide +kernel
theorem dX6_breaks_42 : decode cX6_breaks 42 = .ok (.iaload, 1) := by decide +kernel
theorem dX6_breaks_43 : decode cX6_breaks 43 = .ok (.if_icmp .ge 15, 3) := by decide +kernel
theorem dX6_breaks_46 : decode cX6_breaks 46 = .ok (.aload_n 0, 1) := by decide +kernel
theorem dX6_breaks_47 : decode cX6_breaks 47 = .ok (.iconst 1, 1) := by decide +kernel
theorem dX6_breaks_48 : decode cX6_breaks 48 = .ok (.aload_n 0, 1) := by decide +kernel
theorem dX6_breaks_49 : decode cX6_breaks 49 = .ok (.getfield 9, 3) := by decide +kernel
theorem dX6_breaks_52 : decode cX6_breaks 52 = .ok (.iconst 0, 1) := by decide +kernel
theorem dX6_breaks_53 : decode cX6_breaks 53 = .ok (.iaload, 1) := by decide +kernel
theorem dX6_breaks_54 : decode cX6_breaks 54 = .ok (.invokevirtual 169, 3) := by decide +kernel
theorem dX6_breaks_57 : decode cX6_breaks 57 = .ok (.ireturn, 1) := by decide +kernel
theorem dX6_breaks_58 : decode cX6_breaks 58 = .ok (.aload_n 0, 1) := by decide +kernel
theorem dX6_breaks_59 : decode cX6_breaks 59 = .ok (.iload_n 1, 1) := by decide +kernel
theorem dX6_breaks_60 : decode cX6_breaks 60 = .ok (.iload_n 3, 1) := by decide +kernel
theorem dX6_breaks_61 : decode cX6_breaks 61 = .ok (.invokevirtual 172, 3) := by decide +kernel
theorem dX6_breaks_64 : decode cX6_breaks 64 = .ok (.ifCond .eq 10, 3) := by decide +kernel
theorem dX6_breaks_67 : decode cX6_breaks 67 = .ok (.aload_n 0, 1) := by decide +kernel
theorem dX6_breaks_68 : decode cX6_breaks 68 = .ok (.iconst 2, 1) := by decide +kernel
theorem dX6_breaks_69 : decode cX6_breaks 69 = .ok (.iload_n 1, 1) := by decide +kernel
theorem dX6_breaks_70 : decode cX6_breaks 70 = .ok (.invokevirtual 169, 3) := by decide +kernel
theorem dX6_breaks_73 : decode cX6_breaks 73 = .ok (.ireturn, 1) := by decide +kernel
theorem dX6_breaks_74 : decode cX6_breaks 74 = .ok (.iload_n 3, 1) := by decide +kernel
theorem dX6_breaks_75 : decode cX6_breaks 75 = .ok (.aload_n 0, 1) := by decide +kernel
theorem dX6_breaks_76 : decode cX6_breaks 76 = .ok (.iload_n 2, 1) := by decide +kernel
theorem dX6_breaks_77 : decode cX6_breaks 77 = .ok (.iconst 4, 1) := by decide +kernel
theorem dX6_breaks_78 : decode cX6_breaks 78 = .ok (.invokevirtual 81, 3) := by decide +kernel
theorem dX6_breaks_81 : decode cX6_breaks 81 = .ok (.if_icmp .ge 15, 3) := by decide +kernel
theorem dX6_breaks_84 : decode cX6_breaks 84 = .ok (.aload_n 0, 1) := by decide +kernel
theorem dX6_breaks_85 : decode cX6_breaks 85 = .ok (.iconst 3, 1) := by decide +kernel
theorem dX6_breaks_86 : decode cX6_breaks 86 = .ok (.aload_n 0, 1) := by decide +kernel
theorem dX6_breaks_87 : decode cX6_breaks 87 = .ok (.iload_n 2, 1) := by decide +kernel
theorem dX6_breaks_88 : decode cX6_breaks 88 = .ok (.iconst 4, 1) := by decide +kernel
theorem dX6_breaks_89 : decode cX6_breaks 89 = .ok (.invokevirtual 81, 3) := by decide +kernel
theorem dX6_breaks_92 : decode cX6_breaks 92 = .ok (.invokevirtual 169, 3) := by decide +kernel
theorem dX6_breaks_95 : decode cX6_breaks 95 = .ok (.ireturn, 1) := by decide +kernel
theorem dX6_breaks_96 : decode cX6_breaks 96 = .ok (.aload_n 0, 1) := by decide +kernel
theorem dX6_breaks_97 : decode cX6_breaks 97 = .ok (.iload_n 2, 1) := by decide +kernel
theorem dX6_breaks_98 : decode cX6_breaks 98 = .ok (.iconst 1, 1) := by decide +kernel
theorem dX6_breaks_99 : decode cX6_breaks 99 = .ok (.invokevirtual 81, 3) := by decide +kernel
theorem dX6_breaks_102 : decode cX6_breaks 102 = .ok (.aload_n 0, 1) := by decide +kernel
theorem dX6_breaks_103 : decode cX6_breaks 103 = .ok (.getfield 9, 3) := by decide +kernel
theorem dX6_breaks_106 : decode cX6_breaks 106 = .ok (.bipush 14, 2) := by decide +kernel
theorem dX6_breaks_108 : decode cX6_breaks 108 = .ok (.iload 4, 2) := by decide +kernel
theorem dX6_breaks_110 : decode cX6_breaks 110 = .ok (.bipush 60, 2) := by decide +kernel
theorem dX6_breaks_112 : decode cX6_breaks 112 = .ok (.idiv, 1) := by decide +kernel
theorem dX6_breaks_113 : decode cX6_breaks 113 = .ok (.iadd, 1) := by decide +kernel
theorem dX6_breaks_114 : decode cX6_breaks 114 = .ok (.iaload, 1) := by decide +kernel
theorem dX6_breaks_115 : decode cX6_breaks 115 = .ok (.if_icmp .le 22, 3) := by decide +kernel
theorem dX6_breaks_118 : decode cX6_breaks 118 = .ok (.aload_n 0, 1) := by decide +kernel
theorem dX6_breaks_119 : decode cX6_breaks 119 = .ok (.iconst 4, 1) := by decide +kernel
theorem dX6_breaks_120 : decode cX6_breaks 120 = .ok (.aload_n 0, 1) := by decide +kernel
theorem dX6_breaks_121 : decode cX6_breaks 121 = .ok (.getfield 9, 3) := by decide +kernel
theorem dX6_breaks_124 : decode cX6_breaks 124 = .ok (.bipush 14, 2) := by decide +kernel
theorem dX6_breaks_126 : decode cX6_breaks 126 = .ok (.iload 4, 2) := by decide +kernel
theorem dX6_breaks_128 : decode cX6_breaks 128 = .ok (.bipush 60, 2) := by decide +kernel
theorem dX6_breaks_130 : decode cX6_breaks 130 = .ok (.idiv, 1) := by decide +kernel
theorem dX6_breaks_131 : decode cX6_breaks 131 = .ok (.iadd, 1) := by decide +kernel
theorem dX6_breaks_132 : decode cX6_breaks 132 = .ok (.iaload, 1) := by decide +kernel
theorem dX6_breaks_133 : decode cX6_breaks 133 = .ok (.invokevirtual 169, 3) := by decide +kernel
theorem dX6_breaks_136 : decode cX6_breaks 136 = .ok (.ireturn, 1) := by decide +kernel
theorem dX6_breaks_137 : decode cX6_breaks 137 = .ok (.aload_n 0, 1) := by decide +kernel
theorem dX6_breaks_138 : decode cX6_breaks 138 = .ok (.getfield 139, 3) := by decide +kernel
theorem dX6_breaks_141 : decode cX6_breaks 141 = .ok (.sipush 960, 3) := by decide +kernel
theorem dX6_breaks_144 : decode cX6_breaks 144 = .ok (.if_icmp .le 13, 3) := by decide +kernel
theorem dX6_breaks_147 : decode cX6_breaks 147 = .ok (.aload_n 0, 1) := by decide +kernel
theorem dX6_breaks_148 : decode cX6_breaks 148 = .ok (.iconst 5, 1) := by decide +kernel
theorem dX6_breaks_149 : decode cX6_breaks 149 = .ok (.aload_n 0, 1) := by decide +kernel
theorem dX6_breaks_150 : decode cX6_breaks 150 = .ok (.getfield 139, 3) := by decide +kernel
theorem dX6_breaks_153 : decode cX6_breaks 153 = .ok (.invokevirtual 169, 3) := by decide +kernel
theorem dX6_breaks_156 : decode cX6_breaks 156 = .ok (.ireturn, 1) := by decide +kernel
theorem dX6_breaks_157 : decode cX6_breaks 157 = .ok (.aload_n 0, 1) := by decide +kernel
theorem dX6_breaks_158 : decode cX6_breaks 158 = .ok (.invokevirtual 175, 3) := by decide +kernel
theorem dX6_breaks_161 : decode cX6_breaks 161 = .ok (.istore 7, 2) := by decide +kernel
theorem dX6_breaks_163 : decode cX6_breaks 163 = .ok (.iload 7, 2) := by decide +kernel
theorem dX6_breaks_165 : decode cX6_breaks 165 = .ok (.iconst (-1), 1) := by decide +kernel
theorem dX6_breaks_166 : decode cX6_breaks 166 = .ok (.if_icmp .eq 12, 3) := by decide +kernel
theorem dX6_breaks_169 : decode cX6_breaks 169 = .ok (.aload_n 0, 1) := by decide +kernel
theorem dX6_breaks_170 : decode cX6_breaks 170 = .ok (.bipush 6, 2) := by decide +kernel
theorem dX6_breaks_172 : decode cX6_breaks 172 = .ok (.iload 7, 2) := by decide +kernel
theorem dX6_breaks_174 : decode cX6_breaks 174 = .ok (.invokevirtual 169, 3) := by decide +kernel
theorem dX6_breaks_177 : decode cX6_breaks 177 = .ok (.ireturn, 1) := by decide +kernel
theorem dX6_breaks_178 : decode cX6_breaks 178 = .ok (.aload_n 0, 1) := by decide +kernel
theorem dX6_breaks_179 : decode cX6_breaks 179 = .ok (.invokevirtual 179, 3) := by decide +kernel
theorem dX6_breaks_182 : decode cX6_breaks 182 = .ok (.istore 8, 2) := by decide +kernel
theorem dX6_breaks_184 : decode cX6_breaks 184 = .ok (.iload 8, 2) := by decide +kernel
theorem dX6_breaks_186 : decode cX6_breaks 186 = .ok (.iconst (-1), 1) := by decide +kernel
theorem dX6_breaks_187 : decode cX6_breaks 187 = .ok (.if_icmp .eq 12, 3) := by decide +kernel
theorem dX6_breaks_190 : decode cX6_breaks 190 = .ok (.aload_n 0, 1) := by decide +kernel
theorem dX6_breaks_191 : decode cX6_breaks 191 = .ok (.bipush 7, 2) := by decide +kernel
theorem dX6_breaks_193 : decode cX6_breaks 193 = .ok (.iload 8, 2) := by decide +kernel
theorem dX6_breaks_195 : decode cX6_breaks 195 = .ok (.invokevirtual 169, 3) := by decide +kernel
theorem dX6_breaks_198 : decode cX6_breaks 198 = .ok (.ireturn, 1) := by decide +kernel
theorem dX6_breaks_199 : decode cX6_breaks 199 = .ok (.aload_n 0, 1) := by decide +kernel
theorem dX6_breaks_200 : decode cX6_breaks 200 = .ok (.invokevirtual 182, 3) := by decide +kernel
theorem dX6_breaks_203 : decode cX6_breaks 203 = .ok (.istore 9, 2) := by decide +kernel
theorem dX6_breaks_205 : decode cX6_breaks 205 = .ok (.iload 9, 2) := by decide +kernel
theorem dX6_breaks_207 : decode cX6_breaks 207 = .ok (.iconst (-1), 1) := by decide +kernel
theorem dX6_breaks_208 : decode cX6_breaks 208 = .ok (.if_icmp .eq 12, 3) := by decide +kernel
