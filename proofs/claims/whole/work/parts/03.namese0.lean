theorem dX5_appendShow_0 : decode cX5_appendShow 0 = .ok (.aload_n 0, 1) := by decide +kernel
theorem dX5_appendShow_1 : decode cX5_appendShow 1 = .ok (.getfield 47, 3) := by decide +kernel
theorem dX5_appendShow_4 : decode cX5_appendShow 4 = .ok (.aload_n 0, 1) := by decide +kernel
theorem dX5_appendShow_5 : decode cX5_appendShow 5 = .ok (.getfield 10, 3) := by decide +kernel
theorem dX5_appendShow_8 : decode cX5_appendShow 8 = .ok (.getfield 210, 3) := by decide +kernel
theorem dX5_appendShow_11 : decode cX5_appendShow 11 = .ok (.iload_n 1, 1) := by decide +kernel
theorem dX5_appendShow_12 : decode cX5_appendShow 12 = .ok (.iconst 3, 1) := by decide +kernel
theorem dX5_appendShow_13 : decode cX5_appendShow 13 = .ok (.invokevirtual 126, 3) := by decide +kernel
theorem dX5_appendShow_16 : decode cX5_appendShow 16 = .ok (.invokevirtual 446, 3) := by decide +kernel
theorem dX5_appendShow_19 : decode cX5_appendShow 19 = .ok (.pop, 1) := by decide +kernel
theorem dX5_appendShow_20 : decode cX5_appendShow 20 = .ok (.aload_n 0, 1) := by decide +kernel
theorem dX5_appendShow_21 : decode cX5_appendShow 21 = .ok (.getfield 47, 3) := by decide +kernel
theorem dX5_appendShow_24 : decode cX5_appendShow 24 = .ok (.bipush 45, 2) := by decide +kernel
theorem dX5_appendShow_26 : decode cX5_appendShow 26 = .ok (.invokevirtual 377, 3) := by decide +kernel
theorem dX5_appendShow_29 : decode cX5_appendShow 29 = .ok (.pop, 1) := by decide +kernel
theorem dX5_appendShow_30 : decode cX5_appendShow 30 = .ok (.aload_n 0, 1) := by decide +kernel
theorem dX5_appendShow_31 : decode cX5_appendShow 31 = .ok (.getfield 47, 3) := by decide +kernel
theorem dX5_appendShow_34 : decode cX5_appendShow 34 = .ok (.aload_n 0, 1) := by decide +kernel
theorem dX5_appendShow_35 : decode cX5_appendShow 35 = .ok (.getfield 10, 3) := by decide +kernel
theorem dX5_appendShow_38 : decode cX5_appendShow 38 = .ok (.getfield 210, 3) := by decide +kernel
theorem dX5_appendShow_41 : decode cX5_appendShow 41 = .ok (.iload_n 1, 1) := by decide +kernel
theorem dX5_appendShow_42 : decode cX5_appendShow 42 = .ok (.iconst 4, 1) := by decide +kernel
theorem dX5_appendShow_43 : decode cX5_appendShow 43 = .ok (.invokevirtual 126, 3) := by decide +kernel
theorem dX5_appendShow_46 : decode cX5_appendShow 46 = .ok (.invokevirtual 446, 3) := by decide +kernel
theorem dX5_appendShow_49 : decode cX5_appendShow 49 = .ok (.pop, 1) := by decide +kernel
theorem dX5_appendShow_50 : decode cX5_appendShow 50 = .ok (.aload_n 0, 1) := by decide +kernel
theorem dX5_appendShow_51 : decode cX5_appendShow 51 = .ok (.getfield 47, 3) := by decide +kernel
theorem dX5_appendShow_54 : decode cX5_appendShow 54 = .ok (.ldc_w 449, 3) := by decide +kernel
theorem dX5_appendShow_57 : decode cX5_appendShow 57 = .ok (.invokevirtual 353, 3) := by decide +kernel
theorem dX5_appendShow_60 : decode cX5_appendShow 60 = .ok (.pop, 1) := by decide +kernel
theorem dX5_appendShow_61 : decode cX5_appendShow 61 = .ok (.aload_n 0, 1) := by decide +kernel
theorem dX5_appendShow_62 : decode cX5_appendShow 62 = .ok (.getfield 47, 3) := by decide +kernel
theorem dX5_appendShow_65 : decode cX5_appendShow 65 = .ok (.aload_n 0, 1) := by decide +kernel
theorem dX5_appendShow_66 : decode cX5_appendShow 66 = .ok (.getfield 10, 3) := by decide +kernel
theorem dX5_appendShow_69 : decode cX5_appendShow 69 = .ok (.getfield 210, 3) := by decide +kernel
theorem dX5_appendShow_72 : decode cX5_appendShow 72 = .ok (.iload_n 1, 1) := by decide +kernel
theorem dX5_appendShow_73 : decode cX5_appendShow 73 = .ok (.iconst 1, 1) := by decide +kernel
theorem dX5_appendShow_74 : decode cX5_appendShow 74 = .ok (.invokevirtual 126, 3) := by decide +kernel
theorem dX5_appendShow_77 : decode cX5_appendShow 77 = .ok (.invokevirtual 446, 3) := by decide +kernel
theorem dX5_appendShow_80 : decode cX5_appendShow 80 = .ok (.pop, 1) := by decide +kernel
theorem dX5_appendShow_81 : decode cX5_appendShow 81 = .ok (.aload_n 0, 1) := by decide +kernel
theorem dX5_appendShow_82 : decode cX5_appendShow 82 = .ok (.getfield 47, 3) := by decide +kernel
theorem dX5_appendShow_85 : decode cX5_appendShow 85 = .ok (.bipush 32, 2) := by decide +kernel
theorem dX5_appendShow_87 : decode cX5_appendShow 87 = .ok (.invokevirtual 377, 3) := by decide +kernel
theorem dX5_appendShow_90 : decode cX5_appendShow 90 = .ok (.pop, 1) := by decide +kernel
theorem dX5_appendShow_91 : decode cX5_appendShow 91 = .ok (.aload_n 0, 1) := by decide +kernel
theorem dX5_appendShow_92 : decode cX5_appendShow 92 = .ok (.getfield 47, 3) := by decide +kernel
theorem dX5_appendShow_95 : decode cX5_appendShow 95 = .ok (.aload_n 0, 1) := by decide +kernel
theorem dX5_appendShow_96 : decode cX5_appendShow 96 = .ok (.getfield 10, 3) := by decide +kernel
theorem dX5_appendShow_99 : decode cX5_appendShow 99 = .ok (.getfield 210, 3) := by decide +kernel
theorem dX5_appendShow_102 : decode cX5_appendShow 102 = .ok (.iload_n 1, 1) := by decide +kernel
theorem dX5_appendShow_103 : decode cX5_appendShow 103 = .ok (.iconst 5, 1) := by decide +kernel
theorem dX5_appendShow_104 : decode cX5_appendShow 104 = .ok (.invokevirtual 126, 3) := by decide +kernel
theorem dX5_appendShow_107 : decode cX5_appendShow 107 = .ok (.invokevirtual 446, 3) := by decide +kernel
theorem dX5_appendShow_110 : decode cX5_appendShow 110 = .ok (.pop, 1) := by decide +kernel
theorem dX5_appendShow_111 : decode cX5_appendShow 111 = .ok (.aload_n 0, 1) := by decide +kernel
theorem dX5_appendShow_112 : decode cX5_appendShow 112 = .ok (.getfield 47, 3) := by decide +kernel
theorem dX5_appendShow_115 : decode cX5_appendShow 115 = .ok (.bipush 47, 2) := by decide +kernel
theorem dX5_appendShow_117 : decode cX5_appendShow 117 = .ok (.invokevirtual 377, 3) := by decide +kernel
theorem dX5_appendShow_120 : decode cX5_appendShow 120 = .ok (.pop, 1) := by decide +kernel
theorem dX5_appendShow_121 : decode cX5_appendShow 121 = .ok (.aload_n 0, 1) := by decide +kernel
theorem dX5_appendShow_122 : decode cX5_appendShow 122 = .ok (.getfield 47, 3) := by decide +kernel
theorem dX5_appendShow_125 : decode cX5_appendShow 125 = .ok (.aload_n 0, 1) := by decide +kernel
theorem dX5_appendShow_126 : decode cX5_appendShow 126 = .ok (.getfield 10, 3) := by decide +kernel
theorem dX5_appendShow_129 : decode cX5_appendShow 129 = .ok (.iload_n 1, 1) := by decide +kernel
theorem dX5_appendShow_130 : decode cX5_appendShow 130 = .ok (.invokevirtual 431, 3) := by decide +kernel
theorem dX5_appendShow_133 : decode cX5_appendShow 133 = .ok (.invokevirtual 446, 3) := by decide +kernel
theorem dX5_appendShow_136 : decode cX5_appendShow 136 = .ok (.pop, 1) := by decide +kernel
theorem dX5_appendShow_137 : decode cX5_appendShow 137 = .ok (.return_, 1) := by decide +kernel
set_option maxRecDepth 20000 in
theorem ggX5_isCarriedOut_X4_get : GoodIn wsX5_isCarriedOut wsX4_get := goodIn_ca (goodIn_r _ [9, 10, 11, 254, 255, 256, 257] (by decide +kernel) (by decide +kernel)) (goodIn_sub (fun _ h => List.mem_cons_of_mem _ (List.mem_append_right _ h)) (by decide +kernel))
set_option maxRecDepth 20000 in
theorem gX5_isCarriedOut_X4_get : GoodIn wsX5_isCarriedOut (wsV RX5 126 RX4 yX4_get wsX4_get) := goodIn_app (goodIn_of _ (by decide +kernel)) ggX5_isCarriedOut_X4_get
set_option maxRecDepth 20000 in
theorem ggX5_isCarriedOut_X5_faultOfPlan : GoodIn wsX5_isCarriedOut wsX5_faultOfPlan := goodIn_ca (goodIn_r _ [16, 3, 17, 18, 19, 20, 21, 22, 23, 24, 8, 25, 26, 27, 28, 15, 29, 30, 31, 32, 33, 34, 35, 36, 37, 38, 39, 40, 41, 42, 43, 44, 45, 46, 47, 48, 49, 50, 51, 6, 7, 9, 10, 11, 52, 53, 54, 55, 56, 57, 58, 59, 60, 61, 62, 63, 64, 65, 66, 67, 68, 69, 70, 71, 72, 73, 74, 75, 76, 77, 78, 79, 80, 81, 82, 83, 84, 85, 86, 87, 88, 89, 90, 91, 92, 93, 94, 95, 96, 97, 98, 99, 100, 101, 102, 103, 104, 105, 106, 107, 108, 109, 110, 111, 112, 113, 114, 115, 116, 117, 118, 119, 120, 121, 122, 123, 124, 125, 126, 127, 128, 129, 130, 131, 132, 133, 134, 135, 136, 137, 138, 139, 140, 141, 142, 143, 144, 145, 146, 147, 233, 234, 235, 236, 237, 238, 239, 240, 241, 242, 243, 246, 247, 248, 249, 250, 251, 252, 253, 258, 259, 260, 261, 254, 255, 256, 257] (by decide +kernel) (by decide +kernel)) (goodIn_sub (fun _ h => List.mem_cons_of_mem _ (List.mem_append_right _ h)) (by decide +kernel))
set_option maxRecDepth 20000 in
theorem gX5_isCarriedOut_X5_faultOfPlan : GoodIn wsX5_isCarriedOut (wsV RX5 194 RX5 yX5_faultOfPlan wsX5_faultOfPlan) := goodIn_app (goodIn_of _ (by decide +kernel)) ggX5_isCarriedOut_X5_faultOfPlan
set_option maxRecDepth 20000 in
theorem ggX5_isCarriedOut_X3_addShow : GoodIn wsX5_isCarriedOut wsX3_addShow := goodIn_ca (goodIn_r _ [151, 64, 84, 50, 85, 86, 87, 48, 88, 89, 51, 6, 7, 8, 9, 10, 11, 90, 57, 58, 59, 26, 91, 92, 93, 94, 95, 96, 97, 98, 99, 100, 101, 102, 103, 104, 105, 106, 107, 108, 152, 72, 73, 74, 75, 153, 77, 78, 79, 246, 247, 248, 249, 250, 251, 252, 253, 254, 255, 256, 257] (by decide +kernel) (by decide +kernel)) (goodIn_sub (fun _ h => List.mem_cons_of_mem _ (List.mem_append_right _ h)) (by decide +kernel))
set_option maxRecDepth 20000 in
theorem gX5_isCarriedOut_X3_addShow : GoodIn wsX5_isCarriedOut (wsV RX5 207 RX3 yX3_addShow wsX3_addShow) := goodIn_app (goodIn_of _ (by decide +kernel)) ggX5_isCarriedOut_X3_addShow
set_option maxRecDepth 20000 in
theorem ggX5_isCarriedOut_X5_faultOfSell : GoodIn wsX5_isCarriedOut wsX5_faultOfSell := goodIn_ca (goodIn_r _ [157, 3, 21, 22, 23, 24, 8, 25, 26, 30, 31, 15, 32, 158, 159, 160, 48, 161, 162, 163, 164, 165, 64, 166, 167, 168, 169, 170, 51, 6, 7, 9, 10, 11, 171, 172, 173, 174, 124, 5, 141, 142, 143, 144, 145, 146, 233, 234, 235, 236, 237, 238, 239, 240, 241, 242, 243, 246, 247, 248, 249, 250, 251, 252, 253, 254, 255, 256, 257] (by decide +kernel) (by decide +kernel)) (goodIn_sub (fun _ h => List.mem_cons_of_mem _ (List.mem_append_right _ h)) (by decide +kernel))
set_option maxRecDepth 20000 in
theorem gX5_isCarriedOut_X5_faultOfSell : GoodIn wsX5_isCarriedOut (wsV RX5 246 RX5 yX5_faultOfSell wsX5_faultOfSell) := goodIn_app (goodIn_of _ (by decide +kernel)) ggX5_isCarriedOut_X5_faultOfSell
set_option maxRecDepth 20000 in
theorem ggX5_isCarriedOut_X3_addTickets : GoodIn wsX5_isCarriedOut wsX3_addTickets := goodIn_ca (goodIn_r _ [178, 64, 51, 6, 7, 8, 9, 10, 11, 153, 77, 78, 79, 246, 247, 248, 249, 250, 251, 252, 253, 254, 255, 256, 257] (by decide +kernel) (by decide +kernel)) (goodIn_sub (fun _ h => List.mem_cons_of_mem _ (List.mem_append_right _ h)) (by decide +kernel))
set_option maxRecDepth 20000 in
theorem gX5_isCarriedOut_X3_addTickets : GoodIn wsX5_isCarriedOut (wsV RX5 253 RX3 yX3_addTickets wsX3_addTickets) := goodIn_app (goodIn_of _ (by decide +kernel)) ggX5_isCarriedOut_X3_addTickets
set_option maxRecDepth 20000 in
theorem ggX5_isCarriedOut_X5_faultOfCancel : GoodIn wsX5_isCarriedOut wsX5_faultOfCancel := goodIn_ca (goodIn_r _ [182, 3, 21, 22, 23, 24, 8, 25, 26, 158, 159, 160, 48, 161, 162, 163, 164, 165, 64, 166, 167, 168, 169, 170, 51, 6, 7, 9, 10, 11, 233, 234, 235, 236, 237, 238, 239, 240, 241, 242, 243, 246, 247, 248, 249, 250, 251, 252, 253, 254, 255, 256, 257] (by decide +kernel) (by decide +kernel)) (goodIn_sub (fun _ h => List.mem_cons_of_mem _ (List.mem_append_right _ h)) (by decide +kernel))
set_option maxRecDepth 20000 in
theorem gX5_isCarriedOut_X5_faultOfCancel : GoodIn wsX5_isCarriedOut (wsV RX5 238 RX5 yX5_faultOfCancel wsX5_faultOfCancel) := goodIn_app (goodIn_of _ (by decide +kernel)) ggX5_isCarriedOut_X5_faultOfCancel
set_option maxRecDepth 20000 in
theorem ggX5_isCarriedOut_X3_dropShow : GoodIn wsX5_isCarriedOut wsX3_dropShow := goodIn_ca (goodIn_r _ [186, 64, 187, 51, 6, 7, 8, 9, 10, 11, 153, 77, 78, 79, 246, 247, 248, 249, 250, 251, 252, 253, 254, 255, 256, 257] (by decide +kernel) (by decide +kernel)) (goodIn_sub (fun _ h => List.mem_cons_of_mem _ (List.mem_append_right _ h)) (by decide +kernel))
set_option maxRecDepth 20000 in
theorem gX5_isCarriedOut_X3_dropShow : GoodIn wsX5_isCarriedOut (wsV RX5 243 RX3 yX3_dropShow wsX3_dropShow) := goodIn_app (goodIn_of _ (by decide +kernel)) ggX5_isCarriedOut_X3_dropShow
set_option maxRecDepth 20000 in
theorem ggX5_isCarriedOut_X5_faultOfFail : GoodIn wsX5_isCarriedOut wsX5_faultOfFail := goodIn_ca (goodIn_r _ [191, 3, 17, 4, 22, 23, 24, 8, 25, 26, 30, 31, 15, 32, 5, 6, 7, 9, 10, 11, 233, 234, 235, 236, 237, 238, 239, 240, 241, 242, 243, 246, 247, 248, 249, 250, 251, 252, 253, 254, 255, 256, 257] (by decide +kernel) (by decide +kernel)) (goodIn_sub (fun _ h => List.mem_cons_of_mem _ (List.mem_append_right _ h)) (by decide +kernel))
set_option maxRecDepth 20000 in
theorem gX5_isCarriedOut_X5_faultOfFail : GoodIn wsX5_isCarriedOut (wsV RX5 281 RX5 yX5_faultOfFail wsX5_faultOfFail) := goodIn_app (goodIn_of _ (by decide +kernel)) ggX5_isCarriedOut_X5_faultOfFail
set_option maxRecDepth 20000 in
theorem ggX5_isCarriedOut_X5_closeHall : GoodIn wsX5_isCarriedOut wsX5_closeHall := goodIn_ca (goodIn_r _ [195, 3, 17, 196, 197, 77, 78, 8, 79, 10, 11, 198, 199, 200, 15, 201, 21, 202, 53, 54, 55, 26, 203, 204, 205, 48, 206, 64, 90, 57, 58, 59, 51, 6, 7, 9, 207, 208, 209, 210, 5, 211, 72, 73, 74, 75, 147, 212, 213, 214, 215, 19, 216, 217, 218, 219, 220, 46, 47, 49, 50, 36, 37, 38, 39, 40, 41, 42, 43, 44, 45, 52, 56, 60, 61, 62, 63, 65, 66, 67, 68, 69, 70, 71, 76, 33, 34, 35, 30, 31, 32, 109, 110, 111, 112, 113, 114, 115, 116, 117, 118, 119, 120, 121, 122, 123, 124, 125, 126, 127, 128, 129, 130, 131, 132, 133, 134, 135, 136, 137, 138, 139, 140, 221, 222, 223, 224, 225, 226, 227, 228, 153, 183, 184, 185, 186, 187, 233, 234, 235, 236, 237, 238, 239, 240, 241, 242, 243, 246, 247, 248, 249, 250, 251, 252, 253, 254, 255, 256, 257, 258, 259, 260, 261] (by decide +kernel) (by decide +kernel)) (goodIn_sub (fun _ h => List.mem_cons_of_mem _ (List.mem_append_right _ h)) (by decide +kernel))
set_option maxRecDepth 20000 in
theorem gX5_isCarriedOut_X5_closeHall : GoodIn wsX5_isCarriedOut (wsV RX5 288 RX5 yX5_closeHall wsX5_closeHall) := goodIn_app (goodIn_of _ (by decide +kernel)) ggX5_isCarriedOut_X5_closeHall
set_option maxRecDepth 20000 in
theorem ggX5_isCarriedOut_X5_faultOfAdvance : GoodIn wsX5_isCarriedOut wsX5_faultOfAdvance := goodIn_r _ [232, 3, 4, 30, 31, 15, 32, 233, 234, 235, 236, 237, 238, 239, 240, 241, 242, 243, 246, 247, 248, 249, 250, 251, 252, 253] (by decide +kernel) (by decide +kernel)
set_option maxRecDepth 20000 in
theorem gX5_isCarriedOut_X5_faultOfAdvance : GoodIn wsX5_isCarriedOut (wsV RX5 325 RX5 yX5_faultOfAdvance wsX5_faultOfAdvance) := goodIn_app (goodIn_of _ (by decide +kernel)) ggX5_isCarriedOut_X5_faultOfAdvance
theorem dX5_isCarriedOut_0 : decode cX5_isCarriedOut 0 = .ok (.aload_n 0, 1) := by decide +kernel
theorem dX5_isCarriedOut_1 : decode cX5_isCarriedOut 1 = .ok (.getfield 36, 3) := by decide +kernel
theorem dX5_isCarriedOut_4 : decode cX5_isCarriedOut 4 = .ok (.getfield 392, 3) := by decide +kernel
theorem dX5_isCarriedOut_7 : decode cX5_isCarriedOut 7 = .ok (.iload_n 1, 1) := by decide +kernel
theorem dX5_isCarriedOut_8 : decode cX5_isCarriedOut 8 = .ok (.iconst 1, 1) := by decide +kernel
theorem dX5_isCarriedOut_9 : decode cX5_isCarriedOut 9 = .ok (.invokevirtual 126, 3) := by decide +kernel
theorem dX5_isCarriedOut_12 : decode cX5_isCarriedOut 12 = .ok (.istore_n 2, 1) := by decide +kernel
theorem dX5_isCarriedOut_13 : decode cX5_isCarriedOut 13 = .ok (.aload_n 0, 1) := by decide +kernel
theorem dX5_isCarriedOut_14 : decode cX5_isCarriedOut 14 = .ok (.getfield 36, 3) := by decide +kernel
theorem dX5_isCarriedOut_17 : decode cX5_isCarriedOut 17 = .ok (.getfield 392, 3) := by decide +kernel
theorem dX5_isCarriedOut_20 : decode cX5_isCarriedOut 20 = .ok (.iload_n 1, 1) := by decide +kernel
theorem dX5_isCarriedOut_21 : decode cX5_isCarriedOut 21 = .ok (.iconst 2, 1) := by decide +kernel
theorem dX5_isCarriedOut_22 : decode cX5_isCarriedOut 22 = .ok (.invokevirtual 126, 3) := by decide +kernel
theorem dX5_isCarriedOut_25 : decode cX5_isCarriedOut 25 = .ok (.istore_n 3, 1) := by decide +kernel
theorem dX5_isCarriedOut_26 : decode cX5_isCarriedOut 26 = .ok (.aload_n 0, 1) := by decide +kernel
theorem dX5_isCarriedOut_27 : decode cX5_isCarriedOut 27 = .ok (.getfield 36, 3) := by decide +kernel
theorem dX5_isCarriedOut_30 : decode cX5_isCarriedOut 30 = .ok (.getfield 392, 3) := by decide +kernel
theorem dX5_isCarriedOut_33 : decode cX5_isCarriedOut 33 = .ok (.iload_n 1, 1) := by decide +kernel
theorem dX5_isCarriedOut_34 : decode cX5_isCarriedOut 34 = .ok (.iconst 3, 1) := by decide +kernel
theorem dX5_isCarriedOut_35 : decode cX5_isCarriedOut 35 = .ok (.invokevirtual 126, 3) := by decide +kernel
theorem dX5_isCarriedOut_38 : decode cX5_isCarriedOut 38 = .ok (.istore 4, 2) := by decide +kernel
theorem dX5_isCarriedOut_40 : decode cX5_isCarriedOut 40 = .ok (.aload_n 0, 1) := by decide +kernel
theorem dX5_isCarriedOut_41 : decode cX5_isCarriedOut 41 = .ok (.getfield 36, 3) := by decide +kernel
theorem dX5_isCarriedOut_44 : decode cX5_isCarriedOut 44 = .ok (.getfield 392, 3) := by decide +kernel
theorem dX5_isCarriedOut_47 : decode cX5_isCarriedOut 47 = .ok (.iload_n 1, 1) := by decide +kernel
theorem dX5_isCarriedOut_48 : decode cX5_isCarriedOut 48 = .ok (.iconst 4, 1) := by decide +kernel
theorem dX5_isCarriedOut_49 : decode cX5_isCarriedOut 49 = .ok (.invokevirtual 126, 3) := by decide +kernel
theorem dX5_isCarriedOut_52 : decode cX5_isCarriedOut 52 = .ok (.istore 5, 2) := by decide +kernel
theorem dX5_isCarriedOut_54 : decode cX5_isCarriedOut 54 = .ok (.aload_n 0, 1) := by decide +kernel
theorem dX5_isCarriedOut_55 : decode cX5_isCarriedOut 55 = .ok (.getfield 36, 3) := by decide +kernel
theorem dX5_isCarriedOut_58 : decode cX5_isCarriedOut 58 = .ok (.getfield 392, 3) := by decide +kernel
theorem dX5_isCarriedOut_61 : decode cX5_isCarriedOut 61 = .ok (.iload_n 1, 1) := by decide +kernel
theorem dX5_isCarriedOut_62 : decode cX5_isCarriedOut 62 = .ok (.iconst 0, 1) := by decide +kernel
theorem dX5_isCarriedOut_63 : decode cX5_isCarriedOut 63 = .ok (.invokevirtual 126, 3) := by decide +kernel
theorem dX5_isCarriedOut_66 : decode cX5_isCarriedOut 66 = .ok (.tableswitch 141 0 4 #[34, 68, 94, 118, 141], 34) := by decide +kernel
theorem dX5_isCarriedOut_100 : decode cX5_isCarriedOut 100 = .ok (.aload_n 0, 1) := by decide +kernel
theorem dX5_isCarriedOut_101 : decode cX5_isCarriedOut 101 = .ok (.iload_n 2, 1) := by decide +kernel
theorem dX5_isCarriedOut_102 : decode cX5_isCarriedOut 102 = .ok (.iload_n 3, 1) := by decide +kernel
theorem dX5_isCarriedOut_103 : decode cX5_isCarriedOut 103 = .ok (.iload 4, 2) := by decide +kernel
theorem dX5_isCarriedOut_105 : decode cX5_isCarriedOut 105 = .ok (.iload 5, 2) := by decide +kernel
theorem dX5_isCarriedOut_107 : decode cX5_isCarriedOut 107 = .ok (.invokevirtual 194, 3) := by decide +kernel
theorem dX5_isCarriedOut_110 : decode cX5_isCarriedOut 110 = .ok (.istore 6, 2) := by decide +kernel
theorem dX5_isCarriedOut_112 : decode cX5_isCarriedOut 112 = .ok (.iload 6, 2) := by decide +kernel
theorem dX5_isCarriedOut_114 : decode cX5_isCarriedOut 114 = .ok (.ifCond .ne 118, 3) := by decide +kernel
theorem dX5_isCarriedOut_117 : decode cX5_isCarriedOut 117 = .ok (.aload_n 0, 1) := by decide +kernel
theorem dX5_isCarriedOut_118 : decode cX5_isCarriedOut 118 = .ok (.getfield 10, 3) := by decide +kernel
theorem dX5_isCarriedOut_121 : decode cX5_isCarriedOut 121 = .ok (.iload_n 2, 1) := by decide +kernel
theorem dX5_isCarriedOut_122 : decode cX5_isCarriedOut 122 = .ok (.iload_n 3, 1) := by decide +kernel
theorem dX5_isCarriedOut_123 : decode cX5_isCarriedOut 123 = .ok (.iload 4, 2) := by decide +kernel
theorem dX5_isCarriedOut_125 : decode cX5_isCarriedOut 125 = .ok (.iload 5, 2) := by decide +kernel
theorem dX5_isCarriedOut_127 : decode cX5_isCarriedOut 127 = .ok (.invokevirtual 207, 3) := by decide +kernel
theorem dX5_isCarriedOut_130 : decode cX5_isCarriedOut 130 = .ok (.pop, 1) := by decide +kernel
theorem dX5_isCarriedOut_131 : decode cX5_isCarriedOut 131 = .ok (.goto 101, 3) := by decide +kernel
theorem dX5_isCarriedOut_134 : decode cX5_isCarriedOut 134 = .ok (.aload_n 0, 1) := by decide +kernel
theorem dX5_isCarriedOut_135 : decode cX5_isCarriedOut 135 = .ok (.iload_n 2, 1) := by decide +kernel
theorem dX5_isCarriedOut_136 : decode cX5_isCarriedOut 136 = .ok (.iload_n 3, 1) := by decide +kernel
theorem dX5_isCarriedOut_137 : decode cX5_isCarriedOut 137 = .ok (.invokevirtual 246, 3) := by decide +kernel
theorem dX5_isCarriedOut_140 : decode cX5_isCarriedOut 140 = .ok (.istore 6, 2) := by decide +kernel
theorem dX5_isCarriedOut_142 : decode cX5_isCarriedOut 142 = .ok (.iload 6, 2) := by decide +kernel
theorem dX5_isCarriedOut_144 : decode cX5_isCarriedOut 144 = .ok (.ifCond .ne 88, 3) := by decide +kernel
theorem dX5_isCarriedOut_147 : decode cX5_isCarriedOut 147 = .ok (.aload_n 0, 1) := by decide +kernel
theorem dX5_isCarriedOut_148 : decode cX5_isCarriedOut 148 = .ok (.getfield 10, 3) := by decide +kernel
theorem dX5_isCarriedOut_151 : decode cX5_isCarriedOut 151 = .ok (.iload_n 2, 1) := by decide +kernel
theorem dX5_isCarriedOut_152 : decode cX5_isCarriedOut 152 = .ok (.iload_n 3, 1) := by decide +kernel
theorem dX5_isCarriedOut_153 : decode cX5_isCarriedOut 153 = .ok (.invokevirtual 253, 3) := by decide +kernel
theorem dX5_isCarriedOut_156 : decode cX5_isCarriedOut 156 = .ok (.pop, 1) := by decide +kernel
theorem dX5_isCarriedOut_157 : decode cX5_isCarriedOut 157 = .ok (.goto 75, 3) := by decide +kernel
theorem dX5_isCarriedOut_160 : decode cX5_isCarriedOut 160 = .ok (.aload_n 0, 1) := by decide +kernel
theorem dX5_isCarriedOut_161 : decode cX5_isCarriedOut 161 = .ok (.iload_n 2, 1) := by decide +kernel
theorem dX5_isCarriedOut_162 : decode cX5_isCarriedOut 162 = .ok (.invokevirtual 238, 3) := by decide +kernel
theorem dX5_isCarriedOut_165 : decode cX5_isCarriedOut 165 = .ok (.istore 6, 2) := by decide +kernel
theorem dX5_isCarriedOut_167 : decode cX5_isCarriedOut 167 = .ok (.iload 6, 2) := by decide +kernel
theorem dX5_isCarriedOut_169 : decode cX5_isCarriedOut 169 = .ok (.ifCond .ne 63, 3) := by decide +kernel
theorem dX5_isCarriedOut_172 : decode cX5_isCarriedOut 172 = .ok (.aload_n 0, 1) := by decide +kernel
theorem dX5_isCarriedOut_173 : decode cX5_isCarriedOut 173 = .ok (.getfield 10, 3) := by decide +kernel
theorem dX5_isCarriedOut_176 : decode cX5_isCarriedOut 176 = .ok (.iload_n 2, 1) := by decide +kernel
theorem dX5_isCarriedOut_177 : decode cX5_isCarriedOut 177 = .ok (.invokevirtual 243, 3) := by decide +kernel
theorem dX5_isCarriedOut_180 : decode cX5_isCarriedOut 180 = .ok (.pop, 1) := by decide +kernel
theorem dX5_isCarriedOut_181 : decode cX5_isCarriedOut 181 = .ok (.goto 51, 3) := by decide +kernel
theorem dX5_isCarriedOut_184 : decode cX5_isCarriedOut 184 = .ok (.aload_n 0, 1) := by decide +kernel
theorem dX5_isCarriedOut_185 : decode cX5_isCarriedOut 185 = .ok (.iload_n 2, 1) := by decide +kernel
theorem dX5_isCarriedOut_186 : decode cX5_isCarriedOut 186 = .ok (.iload_n 3, 1) := by decide +kernel
theorem dX5_isCarriedOut_187 : decode cX5_isCarriedOut 187 = .ok (.invokevirtual 281, 3) := by decide +kernel
theorem dX5_isCarriedOut_190 : decode cX5_isCarriedOut 190 = .ok (.istore 6, 2) := by decide +kernel
theorem dX5_isCarriedOut_192 : decode cX5_isCarriedOut 192 = .ok (.iload 6, 2) := by decide +kernel
theorem dX5_isCarriedOut_194 : decode cX5_isCarriedOut 194 = .ok (.ifCond .ne 38, 3) := by decide +kernel
theorem dX5_isCarriedOut_197 : decode cX5_isCarriedOut 197 = .ok (.aload_n 0, 1) := by decide +kernel
theorem dX5_isCarriedOut_198 : decode cX5_isCarriedOut 198 = .ok (.iload_n 2, 1) := by decide +kernel
theorem dX5_isCarriedOut_199 : decode cX5_isCarriedOut 199 = .ok (.iload_n 3, 1) := by decide +kernel
theorem dX5_isCarriedOut_200 : decode cX5_isCarriedOut 200 = .ok (.invokevirtual 288, 3) := by decide +kernel
theorem dX5_isCarriedOut_203 : decode cX5_isCarriedOut 203 = .ok (.pop, 1) := by decide +kernel
theorem dX5_isCarriedOut_204 : decode cX5_isCarriedOut 204 = .ok (.goto 28, 3) := by decide +kernel
theorem dX5_isCarriedOut_207 : decode cX5_isCarriedOut 207 = .ok (.aload_n 0, 1) := by decide +kernel
theorem dX5_isCarriedOut_208 : decode cX5_isCarriedOut 208 = .ok (.iload_n 2, 1) := by decide +kernel
theorem dX5_isCarriedOut_209 : decode cX5_isCarriedOut 209 = .ok (.invokevirtual 325, 3) := by decide +kernel
theorem dX5_isCarriedOut_212 : decode cX5_isCarriedOut 212 = .ok (.istore 6, 2) := by decide +kernel
theorem dX5_isCarriedOut_214 : decode cX5_isCarriedOut 214 = .ok (.iload 6, 2) := by decide +kernel
theorem dX5_isCarriedOut_216 : decode cX5_isCarriedOut 216 = .ok (.ifCond .ne 16, 3) := by decide +kernel
theorem dX5_isCarriedOut_219 : decode cX5_isCarriedOut 219 = .ok (.aload_n 0, 1) := by decide +kernel
theorem dX5_isCarriedOut_220 : decode cX5_isCarriedOut 220 = .ok (.getfield 10, 3) := by decide +kernel
theorem dX5_isCarriedOut_223 : decode cX5_isCarriedOut 223 = .ok (.dup, 1) := by decide +kernel
theorem dX5_isCarriedOut_224 : decode cX5_isCarriedOut 224 = .ok (.getfield 330, 3) := by decide +kernel
theorem dX5_isCarriedOut_227 : decode cX5_isCarriedOut 227 = .ok (.iload_n 2, 1) := by decide +kernel
theorem dX5_isCarriedOut_228 : decode cX5_isCarriedOut 228 = .ok (.iadd, 1) := by decide +kernel
theorem dX5_isCarriedOut_229 : decode cX5_isCarriedOut 229 = .ok (.putfield 330, 3) := by decide +kernel
theorem dX5_isCarriedOut_232 : decode cX5_isCarriedOut 232 = .ok (.iload 6, 2) := by decide +kernel
theorem dX5_isCarriedOut_234 : decode cX5_isCarriedOut 234 = .ok (.ifCond .ne 7, 3) := by decide +kernel
theorem dX5_isCarriedOut_237 : decode cX5_isCarriedOut 237 = .ok (.iconst 1, 1) := by decide +kernel
theorem dX5_isCarriedOut_238 : decode cX5_isCarriedOut 238 = .ok (.goto 4, 3) := by decide +kernel
theorem dX5_isCarriedOut_241 : decode cX5_isCarriedOut 241 = .ok (.iconst 0, 1) := by decide +kernel
theorem dX5_isCarriedOut_242 : decode cX5_isCarriedOut 242 = .ok (.ireturn, 1) := by decide +kernel
theorem dX6_init_0 : decode cX6_init 0 = .ok (.aload_n 0, 1) := by decide +kernel
theorem dX6_init_1 : decode cX6_init 1 = .ok (.invokespecial 1, 3) := by decide +kernel
theorem dX6_init_4 : decode cX6_init 4 = .ok (.aload_n 0, 1) := by decide +kernel
theorem dX6_init_5 : decode cX6_init 5 = .ok (.sipush 580, 3) := by decide +kernel
theorem dX6_init_8 : decode cX6_init 8 = .ok (.newarray .int, 2) := by decide +kernel
theorem dX6_init_10 : decode cX6_init 10 = .ok (.putfield 9, 3) := by decide +kernel
theorem dX6_init_13 : decode cX6_init 13 = .ok (.aload_n 0, 1) := by decide +kernel
theorem dX6_init_14 : decode cX6_init 14 = .ok (.sipush 4640, 3) := by decide +kernel
theorem dX6_init_17 : decode cX6_init 17 = .ok (.newarray .int, 2) := by decide +kernel
theorem dX6_init_19 : decode cX6_init 19 = .ok (.putfield 13, 3) := by decide +kernel
theorem dX6_init_22 : decode cX6_init 22 = .ok (.aload_n 0, 1) := by decide +kernel
theorem dX6_init_23 : decode cX6_init 23 = .ok (.sipush 580, 3) := by decide +kernel
theorem dX6_init_26 : decode cX6_init 26 = .ok (.newarray .int, 2) := by decide +kernel
theorem dX6_init_28 : decode cX6_init 28 = .ok (.putfield 16, 3) := by decide +kernel
theorem dX6_init_31 : decode cX6_init 31 = .ok (.aload_n 0, 1) := by decide +kernel
theorem dX6_init_32 : decode cX6_init 32 = .ok (.sipush 580, 3) := by decide +kernel
theorem dX6_init_35 : decode cX6_init 35 = .ok (.newarray .int, 2) := by decide +kernel
theorem dX6_init_37 : decode cX6_init 37 = .ok (.putfield 19, 3) := by decide +kernel
theorem dX6_init_40 : decode cX6_init 40 = .ok (.aload_n 0, 1) := by decide +kernel
theorem dX6_init_41 : decode cX6_init 41 = .ok (.bipush 60, 2) := by decide +kernel
theorem dX6_init_43 : decode cX6_init 43 = .ok (.newarray .char, 2) := by decide +kernel
theorem dX6_init_45 : decode cX6_init 45 = .ok (.putfield 22, 3) := by decide +kernel
theorem dX6_init_48 : decode cX6_init 48 = .ok (.aload_n 0, 1) := by decide +kernel
theorem dX6_init_49 : decode cX6_init 49 = .ok (.iconst (-1), 1) := by decide +kernel
theorem dX6_init_50 : decode cX6_init 50 = .ok (.putfield 26, 3) := by decide +kernel
theorem dX6_init_53 : decode cX6_init 53 = .ok (.aload_n 0, 1) := by decide +kernel
theorem dX6_init_54 : decode cX6_init 54 = .ok (.sipush 1200, 3) := by decide +kernel
theorem dX6_init_57 : decode cX6_init 57 = .ok (.newarray .char, 2) := by decide +kernel
theorem dX6_init_59 : decode cX6_init 59 = .ok (.putfield 30, 3) := by decide +kernel
theorem dX6_init_62 : decode cX6_init 62 = .ok (.aload_n 0, 1) := by decide +kernel
theorem dX6_init_63 : decode cX6_init 63 = .ok (.sipush 300, 3) := by decide +kernel
theorem dX6_init_66 : decode cX6_init 66 = .ok (.newarray .int, 2) := by decide +kernel
theorem dX6_init_68 : decode cX6_init 68 = .ok (.putfield 33, 3) := by decide +kernel
theorem dX6_init_71 : decode cX6_init 71 = .ok (.aload_n 0, 1) := by decide +kernel
theorem dX6_init_72 : decode cX6_init 72 = .ok (.getfield 9, 3) := by decide +kernel
theorem dX6_init_75 : decode cX6_init 75 = .ok (.bipush 8, 2) := by decide +kernel
theorem dX6_init_77 : decode cX6_init 77 = .ok (.bipush 10, 2) := by decide +kernel
theorem dX6_init_79 : decode cX6_init 79 = .ok (.iastore, 1) := by decide +kernel
theorem dX6_init_80 : decode cX6_init 80 = .ok (.aload_n 0, 1) := by decide +kernel
theorem dX6_init_81 : decode cX6_init 81 = .ok (.getfield 9, 3) := by decide +kernel
theorem dX6_init_84 : decode cX6_init 84 = .ok (.bipush 9, 2) := by decide +kernel
theorem dX6_init_86 : decode cX6_init 86 = .ok (.iconst 2, 1) := by decide +kernel
theorem dX6_init_87 : decode cX6_init 87 = .ok (.iastore, 1) := by decide +kernel
theorem dX6_init_88 : decode cX6_init 88 = .ok (.aload_n 0, 1) := by decide +kernel
theorem dX6_init_89 : decode cX6_init 89 = .ok (.getfield 9, 3) := by decide +kernel
theorem dX6_init_92 : decode cX6_init 92 = .ok (.bipush 10, 2) := by decide +kernel
theorem dX6_init_94 : decode cX6_init 94 = .ok (.bipush 15, 2) := by decide +kernel
theorem dX6_init_96 : decode cX6_init 96 = .ok (.iastore, 1) := by decide +kernel
theorem dX6_init_97 : decode cX6_init 97 = .ok (.aload_n 0, 1) := by decide +kernel
theorem dX6_init_98 : decode cX6_init 98 = .ok (.getfield 9, 3) := by decide +kernel
theorem dX6_init_101 : decode cX6_init 101 = .ok (.bipush 11, 2) := by decide +kernel
theorem dX6_init_103 : decode cX6_init 103 = .ok (.bipush 10, 2) := by decide +kernel
theorem dX6_init_105 : decode cX6_init 105 = .ok (.iastore, 1) := by decide +kernel
theorem dX6_init_106 : decode cX6_init 106 = .ok (.aload_n 0, 1) := by decide +kernel
theorem dX6_init_107 : decode cX6_init 107 = .ok (.getfield 9, 3) := by decide +kernel
theorem dX6_init_110 : decode cX6_init 110 = .ok (.bipush 12, 2) := by decide +kernel
theorem dX6_init_112 : decode cX6_init 112 = .ok (.bipush 60, 2) := by decide +kernel
theorem dX6_init_114 : decode cX6_init 114 = .ok (.iastore, 1) := by decide +kernel
theorem dX6_init_115 : decode cX6_init 115 = .ok (.aload_n 0, 1) := by decide +kernel
theorem dX6_init_116 : decode cX6_init 116 = .ok (.getfield 9, 3) := by decide +kernel
theorem dX6_init_119 : decode cX6_init 119 = .ok (.bipush 13, 2) := by decide +kernel
theorem dX6_init_121 : decode cX6_init 121 = .ok (.bipush 10, 2) := by decide +kernel
theorem dX6_init_123 : decode cX6_init 123 = .ok (.iastore, 1) := by decide +kernel
theorem dX6_init_124 : decode cX6_init 124 = .ok (.iconst 0, 1) := by decide +kernel
theorem dX6_init_125 : decode cX6_init 125 = .ok (.istore_n 1, 1) := by decide +kernel
theorem dX6_init_126 : decode cX6_init 126 = .ok (.iload_n 1, 1) := by decide +kernel
theorem dX6_init_127 : decode cX6_init 127 = .ok (.bipush 16, 2) := by decide +kernel
theorem dX6_init_129 : decode cX6_init 129 = .ok (.if_icmp .ge 19, 3) := by decide +kernel
theorem dX6_init_132 : decode cX6_init 132 = .ok (.aload_n 0, 1) := by decide +kernel
theorem dX6_init_133 : decode cX6_init 133 = .ok (.getfield 9, 3) := by decide +kernel
theorem dX6_init_136 : decode cX6_init 136 = .ok (.bipush 14, 2) := by decide +kernel
theorem dX6_init_138 : decode cX6_init 138 = .ok (.iload_n 1, 1) := by decide +kernel
theorem dX6_init_139 : decode cX6_init 139 = .ok (.iadd, 1) := by decide +kernel
theorem dX6_init_140 : decode cX6_init 140 = .ok (.iconst 3, 1) := by decide +kernel
theorem dX6_init_141 : decode cX6_init 141 = .ok (.iastore, 1) := by decide +kernel
theorem dX6_init_142 : decode cX6_init 142 = .ok (.iinc 1 1, 3) := by decide +kernel
theorem dX6_init_145 : decode cX6_init 145 = .ok (.goto (-19), 3) := by decide +kernel
theorem dX6_init_148 : decode cX6_init 148 = .ok (.return_, 1) := by decide +kernel
theorem dX6_thrown_0 : decode cX6_thrown 0 = .ok (.aload_n 0, 1) := by decide +kernel
theorem dX6_thrown_1 : decode cX6_thrown 1 = .ok (.getfield 36, 3) := by decide +kernel
theorem dX6_thrown_4 : decode cX6_thrown 4 = .ok (.ireturn, 1) := by decide +kernel
theorem dX6_in_0 : decode cX6_in 0 = .ok (.iload_n 0, 1) := by decide +kernel
theorem dX6_in_1 : decode cX6_in 1 = .ok (.iload_n 1, 1) := by decide +kernel
theorem dX6_in_2 : decode cX6_in 2 = .ok (.if_icmp .lt 12, 3) := by decide +kernel
theorem dX6_in_5 : decode cX6_in 5 = .ok (.iload_n 0, 1) := by decide +kernel
theorem dX6_in_6 : decode cX6_in 6 = .ok (.iload_n 2, 1) := by decide +kernel
theorem dX6_in_7 : decode cX6_in 7 = .ok (.if_icmp .gt 7, 3) := by decide +kernel
theorem dX6_in_10 : decode cX6_in 10 = .ok (.iconst 1, 1) := by decide +kernel
theorem dX6_in_11 : decode cX6_in 11 = .ok (.goto 4, 3) := by decide +kernel
theorem dX6_in_14 : decode cX6_in 14 = .ok (.iconst 0, 1) := by decide +kernel
theorem dX6_in_15 : decode cX6_in 15 = .ok (.ireturn, 1) := by decide +kernel
theorem dX6_fails_0 : decode cX6_fails 0 = .ok (.aload_n 0, 1) := by decide +kernel
theorem dX6_fails_1 : decode cX6_fails 1 = .ok (.iload_n 1, 1) := by decide +kernel
theorem dX6_fails_2 : decode cX6_fails 2 = .ok (.putfield 36, 3) := by decide +kernel
theorem dX6_fails_5 : decode cX6_fails 5 = .ok (.iconst 0, 1) := by decide +kernel
theorem dX6_fails_6 : decode cX6_fails 6 = .ok (.ireturn, 1) := by decide +kernel
theorem dX6_done_0 : decode cX6_done 0 = .ok (.aload_n 0, 1) := by decide +kernel
theorem dX6_done_1 : decode cX6_done 1 = .ok (.iconst 0, 1) := by decide +kernel
theorem dX6_done_2 : decode cX6_done 2 = .ok (.putfield 36, 3) := by decide +kernel
theorem dX6_done_5 : decode cX6_done 5 = .ok (.iload_n 1, 1) := by decide +kernel
theorem dX6_done_6 : decode cX6_done 6 = .ok (.ireturn, 1) := by decide +kernel
set_option maxRecDepth 20000 in
theorem ggX6_refuses_X6_fails : GoodIn wsX6_refuses wsX6_fails := goodIn_r _ [7, 8, 9, 10, 11, 12, 13, 14, 15, 16, 17, 18, 19, 20, 21, 22, 23, 24, 25, 26, 27, 28, 29, 30, 31, 32, 33, 34, 35] (by decide +kernel) (by decide +kernel)
set_option maxRecDepth 20000 in
theorem gX6_refuses_X6_fails : GoodIn wsX6_refuses (wsV RX6 45 RX6 yX6_fails wsX6_fails) := goodIn_app (goodIn_of _ (by decide +kernel)) ggX6_refuses_X6_fails
theorem dX6_refuses_0 : decode cX6_refuses 0 = .ok (.aload_n 0, 1) := by decide +kernel
theorem dX6_refuses_1 : decode cX6_refuses 1 = .ok (.iload_n 1, 1) := by decide +kernel
theorem dX6_refuses_2 : decode cX6_refuses 2 = .ok (.putfield 39, 3) := by decide +kernel
theorem dX6_refuses_5 : decode cX6_refuses 5 = .ok (.aload_n 0, 1) := by decide +kernel
theorem dX6_refuses_6 : decode cX6_refuses 6 = .ok (.iload_n 2, 1) := by decide +kernel
theorem dX6_refuses_7 : decode cX6_refuses 7 = .ok (.putfield 42, 3) := by decide +kernel
theorem dX6_refuses_10 : decode cX6_refuses 10 = .ok (.aload_n 0, 1) := by decide +kernel
theorem dX6_refuses_11 : decode cX6_refuses 11 = .ok (.iload_n 3, 1) := by decide +kernel
theorem dX6_refuses_12 : decode cX6_refuses 12 = .ok (.invokevirtual 45, 3) := by decide +kernel
theorem dX6_refuses_15 : decode cX6_refuses 15 = .ok (.ireturn, 1) := by decide +kernel
theorem dX6_copy_0 : decode cX6_copy 0 = .ok (.iconst 0, 1) := by decide +kernel
theorem dX6_copy_1 : decode cX6_copy 1 = .ok (.istore 4, 2) := by decide +kernel
theorem dX6_copy_3 : decode cX6_copy 3 = .ok (.iload 4, 2) := by decide +kernel
theorem dX6_copy_5 : decode cX6_copy 5 = .ok (.sipush 580, 3) := by decide +kernel
theorem dX6_copy_8 : decode cX6_copy 8 = .ok (.if_icmp .ge 21, 3) := by decide +kernel
theorem dX6_copy_11 : decode cX6_copy 11 = .ok (.aload_n 2, 1) := by decide +kernel
theorem dX6_copy_12 : decode cX6_copy 12 = .ok (.iload_n 3, 1) := by decide +kernel
theorem dX6_copy_13 : decode cX6_copy 13 = .ok (.iload 4, 2) := by decide +kernel
theorem dX6_copy_15 : decode cX6_copy 15 = .ok (.iadd, 1) := by decide +kernel
theorem dX6_copy_16 : decode cX6_copy 16 = .ok (.aload_n 0, 1) := by decide +kernel
theorem dX6_copy_17 : decode cX6_copy 17 = .ok (.iload_n 1, 1) := by decide +kernel
theorem dX6_copy_18 : decode cX6_copy 18 = .ok (.iload 4, 2) := by decide +kernel
theorem dX6_copy_20 : decode cX6_copy 20 = .ok (.iadd, 1) := by decide +kernel
theorem dX6_copy_21 : decode cX6_copy 21 = .ok (.iaload, 1) := by decide +kernel
theorem dX6_copy_22 : decode cX6_copy 22 = .ok (.iastore, 1) := by decide +kernel
theorem dX6_copy_23 : decode cX6_copy 23 = .ok (.iinc 4 1, 3) := by decide +kernel
theorem dX6_copy_26 : decode cX6_copy 26 = .ok (.goto (-23), 3) := by decide +kernel
theorem dX6_copy_29 : decode cX6_copy 29 = .ok (.return_, 1) := by decide +kernel
set_option maxRecDepth 20000 in
theorem ggX6_remembersRow_X6_copy : GoodIn wsX6_remembersRow wsX6_copy := goodIn_ca (goodIn_r _ [6] (by decide +kernel) (by decide +kernel)) (goodIn_sub (fun _ h => List.mem_cons_of_mem _ (List.mem_append_right _ h)) (by decide +kernel))
set_option maxRecDepth 20000 in
theorem gX6_remembersRow_X6_copy : GoodIn wsX6_remembersRow (va_wsS RX6 52 yX6_copy wsX6_copy) := goodIn_app (goodIn_of _ (by decide +kernel)) ggX6_remembersRow_X6_copy
theorem dX6_remembersRow_0 : decode cX6_remembersRow 0 = .ok (.aload_n 0, 1) := by decide +kernel
theorem dX6_remembersRow_1 : decode cX6_remembersRow 1 = .ok (.getfield 49, 3) := by decide +kernel
theorem dX6_remembersRow_4 : decode cX6_remembersRow 4 = .ok (.bipush 8, 2) := by decide +kernel
theorem dX6_remembersRow_6 : decode cX6_remembersRow 6 = .ok (.if_icmp .ne 44, 3) := by decide +kernel
theorem dX6_remembersRow_9 : decode cX6_remembersRow 9 = .ok (.iconst 0, 1) := by decide +kernel
theorem dX6_remembersRow_10 : decode cX6_remembersRow 10 = .ok (.istore_n 2, 1) := by decide +kernel
theorem dX6_remembersRow_11 : decode cX6_remembersRow 11 = .ok (.iload_n 2, 1) := by decide +kernel
theorem dX6_remembersRow_12 : decode cX6_remembersRow 12 = .ok (.sipush 4060, 3) := by decide +kernel
theorem dX6_remembersRow_15 : decode cX6_remembersRow 15 = .ok (.if_icmp .ge 25, 3) := by decide +kernel
theorem dX6_remembersRow_18 : decode cX6_remembersRow 18 = .ok (.aload_n 0, 1) := by decide +kernel
theorem dX6_remembersRow_19 : decode cX6_remembersRow 19 = .ok (.getfield 13, 3) := by decide +kernel
theorem dX6_remembersRow_22 : decode cX6_remembersRow 22 = .ok (.iload_n 2, 1) := by decide +kernel
theorem dX6_remembersRow_23 : decode cX6_remembersRow 23 = .ok (.aload_n 0, 1) := by decide +kernel
theorem dX6_remembersRow_24 : decode cX6_remembersRow 24 = .ok (.getfield 13, 3) := by decide +kernel
theorem dX6_remembersRow_27 : decode cX6_remembersRow 27 = .ok (.iload_n 2, 1) := by decide +kernel
theorem dX6_remembersRow_28 : decode cX6_remembersRow 28 = .ok (.sipush 580, 3) := by decide +kernel
theorem dX6_remembersRow_31 : decode cX6_remembersRow 31 = .ok (.iadd, 1) := by decide +kernel
theorem dX6_remembersRow_32 : decode cX6_remembersRow 32 = .ok (.iaload, 1) := by decide +kernel
theorem dX6_remembersRow_33 : decode cX6_remembersRow 33 = .ok (.iastore, 1) := by decide +kernel
theorem dX6_remembersRow_34 : decode cX6_remembersRow 34 = .ok (.iinc 2 1, 3) := by decide +kernel
theorem dX6_remembersRow_37 : decode cX6_remembersRow 37 = .ok (.goto (-26), 3) := by decide +kernel
theorem dX6_remembersRow_40 : decode cX6_remembersRow 40 = .ok (.aload_n 0, 1) := by decide +kernel
theorem dX6_remembersRow_41 : decode cX6_remembersRow 41 = .ok (.dup, 1) := by decide +kernel
theorem dX6_remembersRow_42 : decode cX6_remembersRow 42 = .ok (.getfield 49, 3) := by decide +kernel
theorem dX6_remembersRow_45 : decode cX6_remembersRow 45 = .ok (.iconst 1, 1) := by decide +kernel
theorem dX6_remembersRow_46 : decode cX6_remembersRow 46 = .ok (.isub, 1) := by decide +kernel
theorem dX6_remembersRow_47 : decode cX6_remembersRow 47 = .ok (.putfield 49, 3) := by decide +kernel
theorem dX6_remembersRow_50 : decode cX6_remembersRow 50 = .ok (.aload_n 1, 1) := by decide +kernel
theorem dX6_remembersRow_51 : decode cX6_remembersRow 51 = .ok (.iconst 0, 1) := by decide +kernel
theorem dX6_remembersRow_52 : decode cX6_remembersRow 52 = .ok (.aload_n 0, 1) := by decide +kernel
theorem dX6_remembersRow_53 : decode cX6_remembersRow 53 = .ok (.getfield 13, 3) := by decide +kernel
theorem dX6_remembersRow_56 : decode cX6_remembersRow 56 = .ok (.aload_n 0, 1) := by decide +kernel
theorem dX6_remembersRow_57 : decode cX6_remembersRow 57 = .ok (.getfield 49, 3) := by decide +kernel
theorem dX6_remembersRow_60 : decode cX6_remembersRow 60 = .ok (.sipush 580, 3) := by decide +kernel
theorem dX6_remembersRow_63 : decode cX6_remembersRow 63 = .ok (.imul, 1) := by decide +kernel
theorem dX6_remembersRow_64 : decode cX6_remembersRow 64 = .ok (.invokestatic 52, 3) := by decide +kernel
theorem dX6_remembersRow_67 : decode cX6_remembersRow 67 = .ok (.aload_n 0, 1) := by decide +kernel
theorem dX6_remembersRow_68 : decode cX6_remembersRow 68 = .ok (.dup, 1) := by decide +kernel
theorem dX6_remembersRow_69 : decode cX6_remembersRow 69 = .ok (.getfield 49, 3) := by decide +kernel
theorem dX6_remembersRow_72 : decode cX6_remembersRow 72 = .ok (.iconst 1, 1) := by decide +kernel
theorem dX6_remembersRow_73 : decode cX6_remembersRow 73 = .ok (.iadd, 1) := by decide +kernel
theorem dX6_remembersRow_74 : decode cX6_remembersRow 74 = .ok (.putfield 49, 3) := by decide +kernel
theorem dX6_remembersRow_77 : decode cX6_remembersRow 77 = .ok (.return_, 1) := by decide +kernel
set_option maxRecDepth 20000 in
theorem ggX6_remembers_X6_remembersRow : GoodIn wsX6_remembers wsX6_remembersRow := goodIn_ca (goodIn_r _ [7, 8, 9, 10, 11, 6, 12, 13, 14, 15, 16, 17, 18, 19, 20, 21, 22, 23, 24, 25, 26, 27, 28, 29, 30, 31, 32, 33, 34, 35, 36, 37, 38, 39] (by decide +kernel) (by decide +kernel)) (goodIn_sub (fun _ h => List.mem_cons_of_mem _ (List.mem_append_right _ h)) (by decide +kernel))
set_option maxRecDepth 20000 in
theorem gX6_remembers_X6_remembersRow : GoodIn wsX6_remembers (wsV RX6 60 RX6 yX6_remembersRow wsX6_remembersRow) := goodIn_app (goodIn_of _ (by decide +kernel)) ggX6_remembers_X6_remembersRow
theorem dX6_remembers_0 : decode cX6_remembers 0 = .ok (.aload_n 0, 1) := by decide +kernel
theorem dX6_remembers_1 : decode cX6_remembers 1 = .ok (.getfield 56, 3) := by decide +kernel
theorem dX6_remembers_4 : decode cX6_remembers 4 = .ok (.ifCond .ne 11, 3) := by decide +kernel
theorem dX6_remembers_7 : decode cX6_remembers 7 = .ok (.aload_n 0, 1) := by decide +kernel
theorem dX6_remembers_8 : decode cX6_remembers 8 = .ok (.aload_n 0, 1) := by decide +kernel
theorem dX6_remembers_9 : decode cX6_remembers 9 = .ok (.getfield 9, 3) := by decide +kernel
theorem dX6_remembers_12 : decode cX6_remembers 12 = .ok (.invokevirtual 60, 3) := by decide +kernel
theorem dX6_remembers_15 : decode cX6_remembers 15 = .ok (.return_, 1) := by decide +kernel
theorem dX6_hallAt_0 : decode cX6_hallAt 0 = .ok (.aload_n 0, 1) := by decide +kernel
theorem dX6_hallAt_1 : decode cX6_hallAt 1 = .ok (.getfield 9, 3) := by decide +kernel
theorem dX6_hallAt_4 : decode cX6_hallAt 4 = .ok (.bipush 30, 2) := by decide +kernel
theorem dX6_hallAt_6 : decode cX6_hallAt 6 = .ok (.iconst 4, 1) := by decide +kernel
theorem dX6_hallAt_7 : decode cX6_hallAt 7 = .ok (.iload_n 1, 1) := by decide +kernel
theorem dX6_hallAt_8 : decode cX6_hallAt 8 = .ok (.imul, 1) := by decide +kernel
theorem dX6_hallAt_9 : decode cX6_hallAt 9 = .ok (.iadd, 1) := by decide +kernel
theorem dX6_hallAt_10 : decode cX6_hallAt 10 = .ok (.iload_n 2, 1) := by decide +kernel
theorem dX6_hallAt_11 : decode cX6_hallAt 11 = .ok (.iadd, 1) := by decide +kernel
theorem dX6_hallAt_12 : decode cX6_hallAt 12 = .ok (.iaload, 1) := by decide +kernel
theorem dX6_hallAt_13 : decode cX6_hallAt 13 = .ok (.ireturn, 1) := by decide +kernel
theorem dX6_filmAt_0 : decode cX6_filmAt 0 = .ok (.aload_n 0, 1) := by decide +kernel
theorem dX6_filmAt_1 : decode cX6_filmAt 1 = .ok (.getfield 9, 3) := by decide +kernel
theorem dX6_filmAt_4 : decode cX6_filmAt 4 = .ok (.bipush 54, 2) := by decide +kernel
theorem dX6_filmAt_6 : decode cX6_filmAt 6 = .ok (.bipush 8, 2) := by decide +kernel
theorem dX6_filmAt_8 : decode cX6_filmAt 8 = .ok (.iload_n 1, 1) := by decide +kernel
theorem dX6_filmAt_9 : decode cX6_filmAt 9 = .ok (.imul, 1) := by decide +kernel
theorem dX6_filmAt_10 : decode cX6_filmAt 10 = .ok (.iadd, 1) := by decide +kernel
theorem dX6_filmAt_11 : decode cX6_filmAt 11 = .ok (.iload_n 2, 1) := by decide +kernel
theorem dX6_filmAt_12 : decode cX6_filmAt 12 = .ok (.iadd, 1) := by decide +kernel
theorem dX6_filmAt_13 : decode cX6_filmAt 13 = .ok (.iaload, 1) := by decide +kernel
theorem dX6_filmAt_14 : decode cX6_filmAt 14 = .ok (.ireturn, 1) := by decide +kernel
theorem dX6_trailerAt_0 : decode cX6_trailerAt 0 = .ok (.aload_n 0, 1) := by decide +kernel
theorem dX6_trailerAt_1 : decode cX6_trailerAt 1 = .ok (.getfield 9, 3) := by decide +kernel
theorem dX6_trailerAt_4 : decode cX6_trailerAt 4 = .ok (.bipush 118, 2) := by decide +kernel
theorem dX6_trailerAt_6 : decode cX6_trailerAt 6 = .ok (.iconst 4, 1) := by decide +kernel
theorem dX6_trailerAt_7 : decode cX6_trailerAt 7 = .ok (.iload_n 1, 1) := by decide +kernel
theorem dX6_trailerAt_8 : decode cX6_trailerAt 8 = .ok (.imul, 1) := by decide +kernel
theorem dX6_trailerAt_9 : decode cX6_trailerAt 9 = .ok (.iadd, 1) := by decide +kernel
theorem dX6_trailerAt_10 : decode cX6_trailerAt 10 = .ok (.iload_n 2, 1) := by decide +kernel
theorem dX6_trailerAt_11 : decode cX6_trailerAt 11 = .ok (.iadd, 1) := by decide +kernel
theorem dX6_trailerAt_12 : decode cX6_trailerAt 12 = .ok (.iaload, 1) := by decide +kernel
theorem dX6_trailerAt_13 : decode cX6_trailerAt 13 = .ok (.ireturn, 1) := by decide +kernel
theorem dX6_showAt_0 : decode cX6_showAt 0 = .ok (.aload_n 0, 1) := by decide +kernel
theorem dX6_showAt_1 : decode cX6_showAt 1 = .ok (.getfield 9, 3) := by decide +kernel
theorem dX6_showAt_4 : decode cX6_showAt 4 = .ok (.sipush 158, 3) := by decide +kernel
theorem dX6_showAt_7 : decode cX6_showAt 7 = .ok (.bipush 9, 2) := by decide +kernel
theorem dX6_showAt_9 : decode cX6_showAt 9 = .ok (.iload_n 1, 1) := by decide +kernel
theorem dX6_showAt_10 : decode cX6_showAt 10 = .ok (.imul, 1) := by decide +kernel
theorem dX6_showAt_11 : decode cX6_showAt 11 = .ok (.iadd, 1) := by decide +kernel
theorem dX6_showAt_12 : decode cX6_showAt 12 = .ok (.iload_n 2, 1) := by decide +kernel
theorem dX6_showAt_13 : decode cX6_showAt 13 = .ok (.iadd, 1) := by decide +kernel
theorem dX6_showAt_14 : decode cX6_showAt 14 = .ok (.iaload, 1) := by decide +kernel
theorem dX6_showAt_15 : decode cX6_showAt 15 = .ok (.ireturn, 1) := by decide +kernel
set_option maxRecDepth 20000 in
theorem ggX6_isHall_X6_in : GoodIn wsX6_isHall wsX6_in := goodIn_r _ [5] (by decide +kernel) (by decide +kernel)
set_option maxRecDepth 20000 in
theorem gX6_isHall_X6_in : GoodIn wsX6_isHall (va_wsS RX6 64 yX6_in wsX6_in) := goodIn_app (goodIn_of _ (by decide +kernel)) ggX6_isHall_X6_in
theorem dX6_isHall_0 : decode cX6_isHall 0 = .ok (.iload_n 1, 1) := by decide +kernel
theorem dX6_isHall_1 : decode cX6_isHall 1 = .ok (.iconst 0, 1) := by decide +kernel
theorem dX6_isHall_2 : decode cX6_isHall 2 = .ok (.aload_n 0, 1) := by decide +kernel
theorem dX6_isHall_3 : decode cX6_isHall 3 = .ok (.getfield 9, 3) := by decide +kernel
theorem dX6_isHall_6 : decode cX6_isHall 6 = .ok (.iconst 1, 1) := by decide +kernel
theorem dX6_isHall_7 : decode cX6_isHall 7 = .ok (.iaload, 1) := by decide +kernel
theorem dX6_isHall_8 : decode cX6_isHall 8 = .ok (.iconst 1, 1) := by decide +kernel
theorem dX6_isHall_9 : decode cX6_isHall 9 = .ok (.isub, 1) := by decide +kernel
theorem dX6_isHall_10 : decode cX6_isHall 10 = .ok (.invokestatic 64, 3) := by decide +kernel
theorem dX6_isHall_13 : decode cX6_isHall 13 = .ok (.ireturn, 1) := by decide +kernel
set_option maxRecDepth 20000 in
theorem ggX6_isFilm_X6_in : GoodIn wsX6_isFilm wsX6_in := goodIn_r _ [5] (by decide +kernel) (by decide +kernel)
set_option maxRecDepth 20000 in
theorem gX6_isFilm_X6_in : GoodIn wsX6_isFilm (va_wsS RX6 64 yX6_in wsX6_in) := goodIn_app (goodIn_of _ (by decide +kernel)) ggX6_isFilm_X6_in
theorem dX6_isFilm_0 : decode cX6_isFilm 0 = .ok (.iload_n 1, 1) := by decide +kernel
theorem dX6_isFilm_1 : decode cX6_isFilm 1 = .ok (.iconst 0, 1) := by decide +kernel
theorem dX6_isFilm_2 : decode cX6_isFilm 2 = .ok (.aload_n 0, 1) := by decide +kernel
theorem dX6_isFilm_3 : decode cX6_isFilm 3 = .ok (.getfield 9, 3) := by decide +kernel
theorem dX6_isFilm_6 : decode cX6_isFilm 6 = .ok (.iconst 2, 1) := by decide +kernel
theorem dX6_isFilm_7 : decode cX6_isFilm 7 = .ok (.iaload, 1) := by decide +kernel
theorem dX6_isFilm_8 : decode cX6_isFilm 8 = .ok (.iconst 1, 1) := by decide +kernel
theorem dX6_isFilm_9 : decode cX6_isFilm 9 = .ok (.isub, 1) := by decide +kernel
theorem dX6_isFilm_10 : decode cX6_isFilm 10 = .ok (.invokestatic 64, 3) := by decide +kernel
theorem dX6_isFilm_13 : decode cX6_isFilm 13 = .ok (.ireturn, 1) := by decide +kernel
set_option maxRecDepth 20000 in
theorem ggX6_isShow_X6_in : GoodIn wsX6_isShow wsX6_in := goodIn_r _ [5] (by decide +kernel) (by decide +kernel)
set_option maxRecDepth 20000 in
theorem gX6_isShow_X6_in : GoodIn wsX6_isShow (va_wsS RX6 64 yX6_in wsX6_in) := goodIn_app (goodIn_of _ (by decide +kernel)) ggX6_isShow_X6_in
theorem dX6_isShow_0 : decode cX6_isShow 0 = .ok (.iload_n 1, 1) := by decide +kernel
theorem dX6_isShow_1 : decode cX6_isShow 1 = .ok (.iconst 0, 1) := by decide +kernel
theorem dX6_isShow_2 : decode cX6_isShow 2 = .ok (.aload_n 0, 1) := by decide +kernel
theorem dX6_isShow_3 : decode cX6_isShow 3 = .ok (.getfield 9, 3) := by decide +kernel
theorem dX6_isShow_6 : decode cX6_isShow 6 = .ok (.iconst 4, 1) := by decide +kernel
theorem dX6_isShow_7 : decode cX6_isShow 7 = .ok (.iaload, 1) := by decide +kernel
theorem dX6_isShow_8 : decode cX6_isShow 8 = .ok (.iconst 1, 1) := by decide +kernel
theorem dX6_isShow_9 : decode cX6_isShow 9 = .ok (.isub, 1) := by decide +kernel
theorem dX6_isShow_10 : decode cX6_isShow 10 = .ok (.invokestatic 64, 3) := by decide +kernel
theorem dX6_isShow_13 : decode cX6_isShow 13 = .ok (.ireturn, 1) := by decide +kernel
set_option maxRecDepth 20000 in
theorem ggX6_isDay_X6_in : GoodIn wsX6_isDay wsX6_in := goodIn_r _ [4] (by decide +kernel) (by decide +kernel)
set_option maxRecDepth 20000 in
theorem gX6_isDay_X6_in : GoodIn wsX6_isDay (va_wsS RX6 64 yX6_in wsX6_in) := goodIn_app (goodIn_of _ (by decide +kernel)) ggX6_isDay_X6_in
theorem dX6_isDay_0 : decode cX6_isDay 0 = .ok (.iload_n 0, 1) := by decide +kernel
theorem dX6_isDay_1 : decode cX6_isDay 1 = .ok (.iconst 0, 1) := by decide +kernel
theorem dX6_isDay_2 : decode cX6_isDay 2 = .ok (.bipush 59, 2) := by decide +kernel
theorem dX6_isDay_4 : decode cX6_isDay 4 = .ok (.invokestatic 64, 3) := by decide +kernel
theorem dX6_isDay_7 : decode cX6_isDay 7 = .ok (.ireturn, 1) := by decide +kernel
set_option maxRecDepth 20000 in
theorem ggX6_addHall_X6_in : GoodIn wsX6_addHall wsX6_in := goodIn_r _ [5] (by decide +kernel) (by decide +kernel)
set_option maxRecDepth 20000 in
theorem gX6_addHall_X6_in : GoodIn wsX6_addHall (va_wsS RX6 64 yX6_in wsX6_in) := goodIn_app (goodIn_of _ (by decide +kernel)) ggX6_addHall_X6_in
set_option maxRecDepth 20000 in
theorem ggX6_addHall_X6_fails : GoodIn wsX6_addHall wsX6_fails := goodIn_r _ [9, 10, 29, 30, 31, 32, 33, 34, 35, 36, 37, 38, 39, 40, 41, 42, 43, 44, 45, 46, 47, 48, 49, 50, 51, 52, 53, 54, 55] (by decide +kernel) (by decide +kernel)
set_option maxRecDepth 20000 in
theorem gX6_addHall_X6_fails : GoodIn wsX6_addHall (wsV RX6 45 RX6 yX6_fails wsX6_fails) := goodIn_app (goodIn_of _ (by decide +kernel)) ggX6_addHall_X6_fails
set_option maxRecDepth 20000 in
theorem ggX6_addHall_X6_remembers : GoodIn wsX6_addHall wsX6_remembers := goodIn_ca (goodIn_r _ [14, 15, 1, 16, 17, 18, 4, 19, 20, 21, 22, 23, 24, 29, 30, 31, 32, 33, 34, 35, 36, 37, 38, 39, 40, 41, 42, 43, 44, 45, 46, 47, 48, 49, 50, 51, 52, 53, 54, 55] (by decide +kernel) (by decide +kernel)) (goodIn_sub (fun _ h => List.mem_cons_of_mem _ (List.mem_append_right _ h)) (by decide +kernel))
set_option maxRecDepth 20000 in
theorem gX6_addHall_X6_remembers : GoodIn wsX6_addHall (wsV RX6 68 RX6 yX6_remembers wsX6_remembers) := goodIn_app (goodIn_of _ (by decide +kernel)) ggX6_addHall_X6_remembers
set_option maxRecDepth 20000 in
theorem ggX6_addHall_X6_done : GoodIn wsX6_addHall wsX6_done := goodIn_r _ [28, 10, 29, 30, 31, 32, 33, 34, 35, 36, 37, 38, 39, 40, 41, 42, 43, 44, 45, 46, 47, 48, 49, 50, 51, 52, 53, 54, 55] (by decide +kernel) (by decide +kernel)
set_option maxRecDepth 20000 in
theorem gX6_addHall_X6_done : GoodIn wsX6_addHall (wsV RX6 71 RX6 yX6_done wsX6_done) := goodIn_app (goodIn_of _ (by decide +kernel)) ggX6_addHall_X6_done
theorem dX6_addHall_0 : decode cX6_addHall 0 = .ok (.iload_n 1, 1) := by decide +kernel
theorem dX6_addHall_1 : decode cX6_addHall 1 = .ok (.iconst 1, 1) := by decide +kernel
theorem dX6_addHall_2 : decode cX6_addHall 2 = .ok (.sipush 400, 3) := by decide +kernel
theorem dX6_addHall_5 : decode cX6_addHall 5 = .ok (.invokestatic 64, 3) := by decide +kernel
theorem dX6_addHall_8 : decode cX6_addHall 8 = .ok (.ifCond .eq 22, 3) := by decide +kernel
theorem dX6_addHall_11 : decode cX6_addHall 11 = .ok (.iload_n 2, 1) := by decide +kernel
theorem dX6_addHall_12 : decode cX6_addHall 12 = .ok (.iconst 0, 1) := by decide +kernel
theorem dX6_addHall_13 : decode cX6_addHall 13 = .ok (.bipush 40, 2) := by decide +kernel
theorem dX6_addHall_15 : decode cX6_addHall 15 = .ok (.invokestatic 64, 3) := by decide +kernel
theorem dX6_addHall_18 : decode cX6_addHall 18 = .ok (.ifCond .eq 12, 3) := by decide +kernel
theorem dX6_addHall_21 : decode cX6_addHall 21 = .ok (.iload_n 3, 1) := by decide +kernel
theorem dX6_addHall_22 : decode cX6_addHall 22 = .ok (.iconst 0, 1) := by decide +kernel
theorem dX6_addHall_23 : decode cX6_addHall 23 = .ok (.iconst 2, 1) := by decide +kernel
theorem dX6_addHall_24 : decode cX6_addHall 24 = .ok (.invokestatic 64, 3) := by decide +kernel
theorem dX6_addHall_27 : decode cX6_addHall 27 = .ok (.ifCond .ne 9, 3) := by decide +kernel
theorem dX6_addHall_30 : decode cX6_addHall 30 = .ok (.aload_n 0, 1) := by decide +kernel
theorem dX6_addHall_31 : decode cX6_addHall 31 = .ok (.iconst 1, 1) := by decide +kernel
theorem dX6_addHall_32 : decode cX6_addHall 32 = .ok (.invokevirtual 45, 3) := by decide +kernel
theorem dX6_addHall_35 : decode cX6_addHall 35 = .ok (.ireturn, 1) := by decide +kernel
theorem dX6_addHall_36 : decode cX6_addHall 36 = .ok (.aload_n 0, 1) := by decide +kernel
theorem dX6_addHall_37 : decode cX6_addHall 37 = .ok (.getfield 9, 3) := by decide +kernel
theorem dX6_addHall_40 : decode cX6_addHall 40 = .ok (.iconst 1, 1) := by decide +kernel
theorem dX6_addHall_41 : decode cX6_addHall 41 = .ok (.iaload, 1) := by decide +kernel
theorem dX6_addHall_42 : decode cX6_addHall 42 = .ok (.bipush 6, 2) := by decide +kernel
theorem dX6_addHall_44 : decode cX6_addHall 44 = .ok (.if_icmp .ne 9, 3) := by decide +kernel
theorem dX6_addHall_47 : decode cX6_addHall 47 = .ok (.aload_n 0, 1) := by decide +kernel
theorem dX6_addHall_48 : decode cX6_addHall 48 = .ok (.iconst 2, 1) := by decide +kernel
theorem dX6_addHall_49 : decode cX6_addHall 49 = .ok (.invokevirtual 45, 3) := by decide +kernel
theorem dX6_addHall_52 : decode cX6_addHall 52 = .ok (.ireturn, 1) := by decide +kernel
theorem dX6_addHall_53 : decode cX6_addHall 53 = .ok (.aload_n 0, 1) := by decide +kernel
theorem dX6_addHall_54 : decode cX6_addHall 54 = .ok (.invokevirtual 68, 3) := by decide +kernel
theorem dX6_addHall_57 : decode cX6_addHall 57 = .ok (.bipush 30, 2) := by decide +kernel
theorem dX6_addHall_59 : decode cX6_addHall 59 = .ok (.iconst 4, 1) := by decide +kernel
theorem dX6_addHall_60 : decode cX6_addHall 60 = .ok (.aload_n 0, 1) := by decide +kernel
theorem dX6_addHall_61 : decode cX6_addHall 61 = .ok (.getfield 9, 3) := by decide +kernel
theorem dX6_addHall_64 : decode cX6_addHall 64 = .ok (.iconst 1, 1) := by decide +kernel
theorem dX6_addHall_65 : decode cX6_addHall 65 = .ok (.iaload, 1) := by decide +kernel
theorem dX6_addHall_66 : decode cX6_addHall 66 = .ok (.imul, 1) := by decide +kernel
theorem dX6_addHall_67 : decode cX6_addHall 67 = .ok (.iadd, 1) := by decide +kernel
theorem dX6_addHall_68 : decode cX6_addHall 68 = .ok (.istore 4, 2) := by decide +kernel
theorem dX6_addHall_70 : decode cX6_addHall 70 = .ok (.aload_n 0, 1) := by decide +kernel
theorem dX6_addHall_71 : decode cX6_addHall 71 = .ok (.getfield 9, 3) := by decide +kernel
theorem dX6_addHall_74 : decode cX6_addHall 74 = .ok (.iload 4, 2) := by decide +kernel
theorem dX6_addHall_76 : decode cX6_addHall 76 = .ok (.iload_n 1, 1) := by decide +kernel
theorem dX6_addHall_77 : decode cX6_addHall 77 = .ok (.iastore, 1) := by decide +kernel
theorem dX6_addHall_78 : decode cX6_addHall 78 = .ok (.aload_n 0, 1) := by decide +kernel
theorem dX6_addHall_79 : decode cX6_addHall 79 = .ok (.getfield 9, 3) := by decide +kernel
theorem dX6_addHall_82 : decode cX6_addHall 82 = .ok (.iload 4, 2) := by decide +kernel
theorem dX6_addHall_84 : decode cX6_addHall 84 = .ok (.iconst 1, 1) := by decide +kernel
theorem dX6_addHall_85 : decode cX6_addHall 85 = .ok (.iadd, 1) := by decide +kernel
theorem dX6_addHall_86 : decode cX6_addHall 86 = .ok (.iload_n 2, 1) := by decide +kernel
theorem dX6_addHall_87 : decode cX6_addHall 87 = .ok (.iastore, 1) := by decide +kernel
theorem dX6_addHall_88 : decode cX6_addHall 88 = .ok (.aload_n 0, 1) := by decide +kernel
theorem dX6_addHall_89 : decode cX6_addHall 89 = .ok (.getfield 9, 3) := by decide +kernel
theorem dX6_addHall_92 : decode cX6_addHall 92 = .ok (.iload 4, 2) := by decide +kernel
theorem dX6_addHall_94 : decode cX6_addHall 94 = .ok (.iconst 2, 1) := by decide +kernel
theorem dX6_addHall_95 : decode cX6_addHall 95 = .ok (.iadd, 1) := by decide +kernel
theorem dX6_addHall_96 : decode cX6_addHall 96 = .ok (.iload_n 3, 1) := by decide +kernel
theorem dX6_addHall_97 : decode cX6_addHall 97 = .ok (.iastore, 1) := by decide +kernel
theorem dX6_addHall_98 : decode cX6_addHall 98 = .ok (.aload_n 0, 1) := by decide +kernel
theorem dX6_addHall_99 : decode cX6_addHall 99 = .ok (.getfield 9, 3) := by decide +kernel
theorem dX6_addHall_102 : decode cX6_addHall 102 = .ok (.iload 4, 2) := by decide +kernel
theorem dX6_addHall_104 : decode cX6_addHall 104 = .ok (.iconst 3, 1) := by decide +kernel
theorem dX6_addHall_105 : decode cX6_addHall 105 = .ok (.iadd, 1) := by decide +kernel
theorem dX6_addHall_106 : decode cX6_addHall 106 = .ok (.iconst (-1), 1) := by decide +kernel
theorem dX6_addHall_107 : decode cX6_addHall 107 = .ok (.iastore, 1) := by decide +kernel
theorem dX6_addHall_108 : decode cX6_addHall 108 = .ok (.aload_n 0, 1) := by decide +kernel
theorem dX6_addHall_109 : decode cX6_addHall 109 = .ok (.getfield 9, 3) := by decide +kernel
theorem dX6_addHall_112 : decode cX6_addHall 112 = .ok (.iconst 1, 1) := by decide +kernel
theorem dX6_addHall_113 : decode cX6_addHall 113 = .ok (.dup2, 1) := by decide +kernel
theorem dX6_addHall_114 : decode cX6_addHall 114 = .ok (.iaload, 1) := by decide +kernel
theorem dX6_addHall_115 : decode cX6_addHall 115 = .ok (.iconst 1, 1) := by decide +kernel
theorem dX6_addHall_116 : decode cX6_addHall 116 = .ok (.iadd, 1) := by decide +kernel
theorem dX6_addHall_117 : decode cX6_addHall 117 = .ok (.iastore, 1) := by decide +kernel
theorem dX6_addHall_118 : decode cX6_addHall 118 = .ok (.aload_n 0, 1) := by decide +kernel
theorem dX6_addHall_119 : decode cX6_addHall 119 = .ok (.aload_n 0, 1) := by decide +kernel
theorem dX6_addHall_120 : decode cX6_addHall 120 = .ok (.getfield 9, 3) := by decide +kernel
theorem dX6_addHall_123 : decode cX6_addHall 123 = .ok (.iconst 1, 1) := by decide +kernel
theorem dX6_addHall_124 : decode cX6_addHall 124 = .ok (.iaload, 1) := by decide +kernel
theorem dX6_addHall_125 : decode cX6_addHall 125 = .ok (.iconst 1, 1) := by decide +kernel
theorem dX6_addHall_126 : decode cX6_addHall 126 = .ok (.isub, 1) := by decide +kernel
theorem dX6_addHall_127 : decode cX6_addHall 127 = .ok (.invokevirtual 71, 3) := by decide +kernel
theorem dX6_addHall_130 : decode cX6_addHall 130 = .ok (.ireturn, 1) := by decide +kernel
set_option maxRecDepth 20000 in
theorem ggX6_addFilm_X6_in : GoodIn wsX6_addFilm wsX6_in := goodIn_r _ [5] (by decide +kernel) (by decide +kernel)
set_option maxRecDepth 20000 in
theorem gX6_addFilm_X6_in : GoodIn wsX6_addFilm (va_wsS RX6 64 yX6_in wsX6_in) := goodIn_app (goodIn_of _ (by decide +kernel)) ggX6_addFilm_X6_in
set_option maxRecDepth 20000 in
theorem ggX6_addFilm_X6_isDay : GoodIn wsX6_addFilm wsX6_isDay := goodIn_r _ [8, 2, 3, 4, 5] (by decide +kernel) (by decide +kernel)
set_option maxRecDepth 20000 in
theorem gX6_addFilm_X6_isDay : GoodIn wsX6_addFilm (va_wsS RX6 74 yX6_isDay wsX6_isDay) := goodIn_app (goodIn_of _ (by decide +kernel)) ggX6_addFilm_X6_isDay
set_option maxRecDepth 20000 in
theorem ggX6_addFilm_X6_fails : GoodIn wsX6_addFilm wsX6_fails := goodIn_r _ [12, 13, 32, 33, 34, 35, 36, 37, 38, 39, 40, 41, 42, 43, 44, 45, 46, 47, 48, 49, 50, 51, 52, 53, 54, 55, 56, 57, 58] (by decide +kernel) (by decide +kernel)
set_option maxRecDepth 20000 in
theorem gX6_addFilm_X6_fails : GoodIn wsX6_addFilm (wsV RX6 45 RX6 yX6_fails wsX6_fails) := goodIn_app (goodIn_of _ (by decide +kernel)) ggX6_addFilm_X6_fails
set_option maxRecDepth 20000 in
theorem ggX6_addFilm_X6_remembers : GoodIn wsX6_addFilm wsX6_remembers := goodIn_ca (goodIn_r _ [17, 18, 1, 19, 20, 21, 4, 22, 23, 24, 25, 26, 27, 32, 33, 34, 35, 36, 37, 38, 39, 40, 41, 42, 43, 44, 45, 46, 47, 48, 49, 50, 51, 52, 53, 54, 55, 56, 57, 58] (by decide +kernel) (by decide +kernel)) (goodIn_sub (fun _ h => List.mem_cons_of_mem _ (List.mem_append_right _ h)) (by decide +kernel))
set_option maxRecDepth 20000 in
theorem gX6_addFilm_X6_remembers : GoodIn wsX6_addFilm (wsV RX6 68 RX6 yX6_remembers wsX6_remembers) := goodIn_app (goodIn_of _ (by decide +kernel)) ggX6_addFilm_X6_remembers
set_option maxRecDepth 20000 in
theorem ggX6_addFilm_X6_done : GoodIn wsX6_addFilm wsX6_done := goodIn_r _ [31, 13, 32, 33, 34, 35, 36, 37, 38, 39, 40, 41, 42, 43, 44, 45, 46, 47, 48, 49, 50, 51, 52, 53, 54, 55, 56, 57, 58] (by decide +kernel) (by decide +kernel)
set_option maxRecDepth 20000 in
theorem gX6_addFilm_X6_done : GoodIn wsX6_addFilm (wsV RX6 71 RX6 yX6_done wsX6_done) := goodIn_app (goodIn_of _ (by decide +kernel)) ggX6_addFilm_X6_done
theorem dX6_addFilm_0 : decode cX6_addFilm 0 = .ok (.iload_n 1, 1) := by decide +kernel
theorem dX6_addFilm_1 : decode cX6_addFilm 1 = .ok (.bipush 30, 2) := by decide +kernel
theorem dX6_addFilm_3 : decode cX6_addFilm 3 = .ok (.sipush 240, 3) := by decide +kernel
theorem dX6_addFilm_6 : decode cX6_addFilm 6 = .ok (.invokestatic 64, 3) := by decide +kernel
theorem dX6_addFilm_9 : decode cX6_addFilm 9 = .ok (.ifCond .eq 40, 3) := by decide +kernel
theorem dX6_addFilm_12 : decode cX6_addFilm 12 = .ok (.iload_n 2, 1) := by decide +kernel
theorem dX6_addFilm_13 : decode cX6_addFilm 13 = .ok (.iconst 0, 1) := by decide +kernel
theorem dX6_addFilm_14 : decode cX6_addFilm 14 = .ok (.iconst 3, 1) := by decide +kernel
theorem dX6_addFilm_15 : decode cX6_addFilm 15 = .ok (.invokestatic 64, 3) := by decide +kernel
theorem dX6_addFilm_18 : decode cX6_addFilm 18 = .ok (.ifCond .eq 31, 3) := by decide +kernel
theorem dX6_addFilm_21 : decode cX6_addFilm 21 = .ok (.iload_n 3, 1) := by decide +kernel
theorem dX6_addFilm_22 : decode cX6_addFilm 22 = .ok (.iconst 1, 1) := by decide +kernel
theorem dX6_addFilm_23 : decode cX6_addFilm 23 = .ok (.bipush 63, 2) := by decide +kernel
theorem dX6_addFilm_25 : decode cX6_addFilm 25 = .ok (.invokestatic 64, 3) := by decide +kernel
theorem dX6_addFilm_28 : decode cX6_addFilm 28 = .ok (.ifCond .eq 21, 3) := by decide +kernel
theorem dX6_addFilm_31 : decode cX6_addFilm 31 = .ok (.iload 4, 2) := by decide +kernel
theorem dX6_addFilm_33 : decode cX6_addFilm 33 = .ok (.iconst 1, 1) := by decide +kernel
theorem dX6_addFilm_34 : decode cX6_addFilm 34 = .ok (.iconst 3, 1) := by decide +kernel
theorem dX6_addFilm_35 : decode cX6_addFilm 35 = .ok (.invokestatic 64, 3) := by decide +kernel
theorem dX6_addFilm_38 : decode cX6_addFilm 38 = .ok (.ifCond .eq 11, 3) := by decide +kernel
theorem dX6_addFilm_41 : decode cX6_addFilm 41 = .ok (.iload 5, 2) := by decide +kernel
theorem dX6_addFilm_43 : decode cX6_addFilm 43 = .ok (.invokestatic 74, 3) := by decide +kernel
theorem dX6_addFilm_46 : decode cX6_addFilm 46 = .ok (.ifCond .ne 9, 3) := by decide +kernel
theorem dX6_addFilm_49 : decode cX6_addFilm 49 = .ok (.aload_n 0, 1) := by decide +kernel
theorem dX6_addFilm_50 : decode cX6_addFilm 50 = .ok (.iconst 1, 1) := by decide +kernel
theorem dX6_addFilm_51 : decode cX6_addFilm 51 = .ok (.invokevirtual 45, 3) := by decide +kernel
theorem dX6_addFilm_54 : decode cX6_addFilm 54 = .ok (.ireturn, 1) := by decide +kernel
theorem dX6_addFilm_55 : decode cX6_addFilm 55 = .ok (.aload_n 0, 1) := by decide +kernel
theorem dX6_addFilm_56 : decode cX6_addFilm 56 = .ok (.getfield 9, 3) := by decide +kernel
theorem dX6_addFilm_59 : decode cX6_addFilm 59 = .ok (.iconst 2, 1) := by decide +kernel
theorem dX6_addFilm_60 : decode cX6_addFilm 60 = .ok (.iaload, 1) := by decide +kernel
theorem dX6_addFilm_61 : decode cX6_addFilm 61 = .ok (.bipush 8, 2) := by decide +kernel
theorem dX6_addFilm_63 : decode cX6_addFilm 63 = .ok (.if_icmp .ne 9, 3) := by decide +kernel
theorem dX6_addFilm_66 : decode cX6_addFilm 66 = .ok (.aload_n 0, 1) := by decide +kernel
theorem dX6_addFilm_67 : decode cX6_addFilm 67 = .ok (.iconst 2, 1) := by decide +kernel
theorem dX6_addFilm_68 : decode cX6_addFilm 68 = .ok (.invokevirtual 45, 3) := by decide +kernel
theorem dX6_addFilm_71 : decode cX6_addFilm 71 = .ok (.ireturn, 1) := by decide +kernel
theorem dX6_addFilm_72 : decode cX6_addFilm 72 = .ok (.aload_n 0, 1) := by decide +kernel
theorem dX6_addFilm_73 : decode cX6_addFilm 73 = .ok (.invokevirtual 68, 3) := by decide +kernel
theorem dX6_addFilm_76 : decode cX6_addFilm 76 = .ok (.bipush 54, 2) := by decide +kernel
theorem dX6_addFilm_78 : decode cX6_addFilm 78 = .ok (.bipush 8, 2) := by decide +kernel
theorem dX6_addFilm_80 : decode cX6_addFilm 80 = .ok (.aload_n 0, 1) := by decide +kernel
theorem dX6_addFilm_81 : decode cX6_addFilm 81 = .ok (.getfield 9, 3) := by decide +kernel
theorem dX6_addFilm_84 : decode cX6_addFilm 84 = .ok (.iconst 2, 1) := by decide +kernel
theorem dX6_addFilm_85 : decode cX6_addFilm 85 = .ok (.iaload, 1) := by decide +kernel
theorem dX6_addFilm_86 : decode cX6_addFilm 86 = .ok (.imul, 1) := by decide +kernel
theorem dX6_addFilm_87 : decode cX6_addFilm 87 = .ok (.iadd, 1) := by decide +kernel
theorem dX6_addFilm_88 : decode cX6_addFilm 88 = .ok (.istore 6, 2) := by decide +kernel
theorem dX6_addFilm_90 : decode cX6_addFilm 90 = .ok (.aload_n 0, 1) := by decide +kernel
theorem dX6_addFilm_91 : decode cX6_addFilm 91 = .ok (.getfield 9, 3) := by decide +kernel
theorem dX6_addFilm_94 : decode cX6_addFilm 94 = .ok (.iload 6, 2) := by decide +kernel
theorem dX6_addFilm_96 : decode cX6_addFilm 96 = .ok (.iload_n 1, 1) := by decide +kernel
theorem dX6_addFilm_97 : decode cX6_addFilm 97 = .ok (.iastore, 1) := by decide +kernel
theorem dX6_addFilm_98 : decode cX6_addFilm 98 = .ok (.aload_n 0, 1) := by decide +kernel
theorem dX6_addFilm_99 : decode cX6_addFilm 99 = .ok (.getfield 9, 3) := by decide +kernel
theorem dX6_addFilm_102 : decode cX6_addFilm 102 = .ok (.iload 6, 2) := by decide +kernel
theorem dX6_addFilm_104 : decode cX6_addFilm 104 = .ok (.iconst 1, 1) := by decide +kernel
theorem dX6_addFilm_105 : decode cX6_addFilm 105 = .ok (.iadd, 1) := by decide +kernel
theorem dX6_addFilm_106 : decode cX6_addFilm 106 = .ok (.iload_n 2, 1) := by decide +kernel
theorem dX6_addFilm_107 : decode cX6_addFilm 107 = .ok (.iastore, 1) := by decide +kernel
theorem dX6_addFilm_108 : decode cX6_addFilm 108 = .ok (.aload_n 0, 1) := by decide +kernel
theorem dX6_addFilm_109 : decode cX6_addFilm 109 = .ok (.getfield 9, 3) := by decide +kernel
theorem dX6_addFilm_112 : decode cX6_addFilm 112 = .ok (.iload 6, 2) := by decide +kernel
theorem dX6_addFilm_114 : decode cX6_addFilm 114 = .ok (.iconst 2, 1) := by decide +kernel
theorem dX6_addFilm_115 : decode cX6_addFilm 115 = .ok (.iadd, 1) := by decide +kernel
theorem dX6_addFilm_116 : decode cX6_addFilm 116 = .ok (.iload_n 3, 1) := by decide +kernel
theorem dX6_addFilm_117 : decode cX6_addFilm 117 = .ok (.iastore, 1) := by decide +kernel
theorem dX6_addFilm_118 : decode cX6_addFilm 118 = .ok (.aload_n 0, 1) := by decide +kernel
theorem dX6_addFilm_119 : decode cX6_addFilm 119 = .ok (.getfield 9, 3) := by decide +kernel
theorem dX6_addFilm_122 : decode cX6_addFilm 122 = .ok (.iload 6, 2) := by decide +kernel
theorem dX6_addFilm_124 : decode cX6_addFilm 124 = .ok (.iconst 3, 1) := by decide +kernel
theorem dX6_addFilm_125 : decode cX6_addFilm 125 = .ok (.iadd, 1) := by decide +kernel
theorem dX6_addFilm_126 : decode cX6_addFilm 126 = .ok (.iload 4, 2) := by decide +kernel
theorem dX6_addFilm_128 : decode cX6_addFilm 128 = .ok (.iastore, 1) := by decide +kernel
theorem dX6_addFilm_129 : decode cX6_addFilm 129 = .ok (.aload_n 0, 1) := by decide +kernel
theorem dX6_addFilm_130 : decode cX6_addFilm 130 = .ok (.getfield 9, 3) := by decide +kernel
theorem dX6_addFilm_133 : decode cX6_addFilm 133 = .ok (.iload 6, 2) := by decide +kernel
theorem dX6_addFilm_135 : decode cX6_addFilm 135 = .ok (.iconst 4, 1) := by decide +kernel
theorem dX6_addFilm_136 : decode cX6_addFilm 136 = .ok (.iadd, 1) := by decide +kernel
theorem dX6_addFilm_137 : decode cX6_addFilm 137 = .ok (.iload 5, 2) := by decide +kernel
theorem dX6_addFilm_139 : decode cX6_addFilm 139 = .ok (.iastore, 1) := by decide +kernel
theorem dX6_addFilm_140 : decode cX6_addFilm 140 = .ok (.aload_n 0, 1) := by decide +kernel
theorem dX6_addFilm_141 : decode cX6_addFilm 141 = .ok (.getfield 9, 3) := by decide +kernel
theorem dX6_addFilm_144 : decode cX6_addFilm 144 = .ok (.iload 6, 2) := by decide +kernel
theorem dX6_addFilm_146 : decode cX6_addFilm 146 = .ok (.iconst 5, 1) := by decide +kernel
theorem dX6_addFilm_147 : decode cX6_addFilm 147 = .ok (.iadd, 1) := by decide +kernel
theorem dX6_addFilm_148 : decode cX6_addFilm 148 = .ok (.bipush 60, 2) := by decide +kernel
theorem dX6_addFilm_150 : decode cX6_addFilm 150 = .ok (.iastore, 1) := by decide +kernel
theorem dX6_addFilm_151 : decode cX6_addFilm 151 = .ok (.aload_n 0, 1) := by decide +kernel
theorem dX6_addFilm_152 : decode cX6_addFilm 152 = .ok (.getfield 9, 3) := by decide +kernel
theorem dX6_addFilm_155 : decode cX6_addFilm 155 = .ok (.iload 6, 2) := by decide +kernel
theorem dX6_addFilm_157 : decode cX6_addFilm 157 = .ok (.bipush 6, 2) := by decide +kernel
theorem dX6_addFilm_159 : decode cX6_addFilm 159 = .ok (.iadd, 1) := by decide +kernel
theorem dX6_addFilm_160 : decode cX6_addFilm 160 = .ok (.bipush 10, 2) := by decide +kernel
theorem dX6_addFilm_162 : decode cX6_addFilm 162 = .ok (.iastore, 1) := by decide +kernel
theorem dX6_addFilm_163 : decode cX6_addFilm 163 = .ok (.aload_n 0, 1) := by decide +kernel
theorem dX6_addFilm_164 : decode cX6_addFilm 164 = .ok (.getfield 9, 3) := by decide +kernel
theorem dX6_addFilm_167 : decode cX6_addFilm 167 = .ok (.iload 6, 2) := by decide +kernel
theorem dX6_addFilm_169 : decode cX6_addFilm 169 = .ok (.bipush 7, 2) := by decide +kernel
theorem dX6_addFilm_171 : decode cX6_addFilm 171 = .ok (.iadd, 1) := by decide +kernel
theorem dX6_addFilm_172 : decode cX6_addFilm 172 = .ok (.bipush 20, 2) := by decide +kernel
theorem dX6_addFilm_174 : decode cX6_addFilm 174 = .ok (.iastore, 1) := by decide +kernel
theorem dX6_addFilm_175 : decode cX6_addFilm 175 = .ok (.aload_n 0, 1) := by decide +kernel
theorem dX6_addFilm_176 : decode cX6_addFilm 176 = .ok (.getfield 9, 3) := by decide +kernel
theorem dX6_addFilm_179 : decode cX6_addFilm 179 = .ok (.iconst 2, 1) := by decide +kernel
theorem dX6_addFilm_180 : decode cX6_addFilm 180 = .ok (.dup2, 1) := by decide +kernel
theorem dX6_addFilm_181 : decode cX6_addFilm 181 = .ok (.iaload, 1) := by decide +kernel
theorem dX6_addFilm_182 : decode cX6_addFilm 182 = .ok (.iconst 1, 1) := by decide +kernel
theorem dX6_addFilm_183 : decode cX6_addFilm 183 = .ok (.iadd, 1) := by decide +kernel
theorem dX6_addFilm_184 : decode cX6_addFilm 184 = .ok (.iastore, 1) := by decide +kernel
theorem dX6_addFilm_185 : decode cX6_addFilm 185 = .ok (.aload_n 0, 1) := by decide +kernel
theorem dX6_addFilm_186 : decode cX6_addFilm 186 = .ok (.aload_n 0, 1) := by decide +kernel
theorem dX6_addFilm_187 : decode cX6_addFilm 187 = .ok (.getfield 9, 3) := by decide +kernel
theorem dX6_addFilm_190 : decode cX6_addFilm 190 = .ok (.iconst 2, 1) := by decide +kernel
theorem dX6_addFilm_191 : decode cX6_addFilm 191 = .ok (.iaload, 1) := by decide +kernel
theorem dX6_addFilm_192 : decode cX6_addFilm 192 = .ok (.iconst 1, 1) := by decide +kernel
theorem dX6_addFilm_193 : decode cX6_addFilm 193 = .ok (.isub, 1) := by decide +kernel
theorem dX6_addFilm_194 : decode cX6_addFilm 194 = .ok (.invokevirtual 71, 3) := by decide +kernel
theorem dX6_addFilm_197 : decode cX6_addFilm 197 = .ok (.ireturn, 1) := by decide +kernel
set_option maxRecDepth 20000 in
theorem ggX6_setShares_X6_isFilm : GoodIn wsX6_setShares wsX6_isFilm := goodIn_ca (goodIn_r _ [6, 1, 7, 8, 5, 9, 37, 38, 39, 40, 41, 42, 43, 44, 45, 46, 47, 48, 49, 50, 51, 52, 53, 54, 55, 56, 57, 58, 59, 60, 61, 62, 63] (by decide +kernel) (by decide +kernel)) (goodIn_sub (fun _ h => List.mem_cons_of_mem _ (List.mem_append_right _ h)) (by decide +kernel))
set_option maxRecDepth 20000 in
theorem gX6_setShares_X6_isFilm : GoodIn wsX6_setShares (wsV RX6 78 RX6 yX6_isFilm wsX6_isFilm) := goodIn_app (goodIn_of _ (by decide +kernel)) ggX6_setShares_X6_isFilm
set_option maxRecDepth 20000 in
theorem ggX6_setShares_X6_fails : GoodIn wsX6_setShares wsX6_fails := goodIn_r _ [13, 14, 37, 38, 39, 40, 41, 42, 43, 44, 45, 46, 47, 48, 49, 50, 51, 52, 53, 54, 55, 56, 57, 58, 59, 60, 61, 62, 63] (by decide +kernel) (by decide +kernel)
set_option maxRecDepth 20000 in
theorem gX6_setShares_X6_fails : GoodIn wsX6_setShares (wsV RX6 45 RX6 yX6_fails wsX6_fails) := goodIn_app (goodIn_of _ (by decide +kernel)) ggX6_setShares_X6_fails
set_option maxRecDepth 20000 in
theorem ggX6_setShares_X6_in : GoodIn wsX6_setShares wsX6_in := goodIn_r _ [9] (by decide +kernel) (by decide +kernel)
set_option maxRecDepth 20000 in
theorem gX6_setShares_X6_in : GoodIn wsX6_setShares (va_wsS RX6 64 yX6_in wsX6_in) := goodIn_app (goodIn_of _ (by decide +kernel)) ggX6_setShares_X6_in
set_option maxRecDepth 20000 in
theorem ggX6_setShares_X6_remembers : GoodIn wsX6_setShares wsX6_remembers := goodIn_ca (goodIn_r _ [18, 19, 1, 20, 21, 22, 5, 23, 24, 25, 26, 27, 28, 37, 38, 39, 40, 41, 42, 43, 44, 45, 46, 47, 48, 49, 50, 51, 52, 53, 54, 55, 56, 57, 58, 59, 60, 61, 62, 63] (by decide +kernel) (by decide +kernel)) (goodIn_sub (fun _ h => List.mem_cons_of_mem _ (List.mem_append_right _ h)) (by decide +kernel))
set_option maxRecDepth 20000 in
theorem gX6_setShares_X6_remembers : GoodIn wsX6_setShares (wsV RX6 68 RX6 yX6_remembers wsX6_remembers) := goodIn_app (goodIn_of _ (by decide +kernel)) ggX6_setShares_X6_remembers
set_option maxRecDepth 20000 in
theorem ggX6_setShares_X6_filmAt : GoodIn wsX6_setShares wsX6_filmAt := goodIn_ca (goodIn_r _ [32, 1, 37, 38, 39, 40, 41, 42, 43, 44, 45, 46, 47, 48, 49, 50, 51, 52, 53, 54, 55, 56, 57, 58, 59, 60, 61, 62, 63] (by decide +kernel) (by decide +kernel)) (goodIn_sub (fun _ h => List.mem_cons_of_mem _ (List.mem_append_right _ h)) (by decide +kernel))
set_option maxRecDepth 20000 in
theorem gX6_setShares_X6_filmAt : GoodIn wsX6_setShares (wsV RX6 81 RX6 yX6_filmAt wsX6_filmAt) := goodIn_app (goodIn_of _ (by decide +kernel)) ggX6_setShares_X6_filmAt
set_option maxRecDepth 20000 in
theorem ggX6_setShares_X6_done : GoodIn wsX6_setShares wsX6_done := goodIn_r _ [36, 14, 37, 38, 39, 40, 41, 42, 43, 44, 45, 46, 47, 48, 49, 50, 51, 52, 53, 54, 55, 56, 57, 58, 59, 60, 61, 62, 63] (by decide +kernel) (by decide +kernel)
set_option maxRecDepth 20000 in
theorem gX6_setShares_X6_done : GoodIn wsX6_setShares (wsV RX6 71 RX6 yX6_done wsX6_done) := goodIn_app (goodIn_of _ (by decide +kernel)) ggX6_setShares_X6_done
theorem dX6_setShares_0 : decode cX6_setShares 0 = .ok (.aload_n 0, 1) := by decide +kernel
theorem dX6_setShares_1 : decode cX6_setShares 1 = .ok (.iload_n 1, 1) := by decide +kernel
theorem dX6_setShares_2 : decode cX6_setShares 2 = .ok (.invokevirtual 78, 3) := by decide +kernel
theorem dX6_setShares_5 : decode cX6_setShares 5 = .ok (.ifCond .ne 9, 3) := by decide +kernel
theorem dX6_setShares_8 : decode cX6_setShares 8 = .ok (.aload_n 0, 1) := by decide +kernel
theorem dX6_setShares_9 : decode cX6_setShares 9 = .ok (.iconst 1, 1) := by decide +kernel
theorem dX6_setShares_10 : decode cX6_setShares 10 = .ok (.invokevirtual 45, 3) := by decide +kernel
theorem dX6_setShares_13 : decode cX6_setShares 13 = .ok (.ireturn, 1) := by decide +kernel
theorem dX6_setShares_14 : decode cX6_setShares 14 = .ok (.iload_n 2, 1) := by decide +kernel
theorem dX6_setShares_15 : decode cX6_setShares 15 = .ok (.iconst 0, 1) := by decide +kernel
theorem dX6_setShares_16 : decode cX6_setShares 16 = .ok (.bipush 100, 2) := by decide +kernel
theorem dX6_setShares_18 : decode cX6_setShares 18 = .ok (.invokestatic 64, 3) := by decide +kernel
theorem dX6_setShares_21 : decode cX6_setShares 21 = .ok (.ifCond .eq 23, 3) := by decide +kernel
theorem dX6_setShares_24 : decode cX6_setShares 24 = .ok (.iload_n 3, 1) := by decide +kernel
theorem dX6_setShares_25 : decode cX6_setShares 25 = .ok (.iconst 0, 1) := by decide +kernel
theorem dX6_setShares_26 : decode cX6_setShares 26 = .ok (.bipush 50, 2) := by decide +kernel
theorem dX6_setShares_28 : decode cX6_setShares 28 = .ok (.invokestatic 64, 3) := by decide +kernel
theorem dX6_setShares_31 : decode cX6_setShares 31 = .ok (.ifCond .eq 13, 3) := by decide +kernel
theorem dX6_setShares_34 : decode cX6_setShares 34 = .ok (.iload 4, 2) := by decide +kernel
theorem dX6_setShares_36 : decode cX6_setShares 36 = .ok (.iconst 0, 1) := by decide +kernel
theorem dX6_setShares_37 : decode cX6_setShares 37 = .ok (.iload_n 2, 1) := by decide +kernel
theorem dX6_setShares_38 : decode cX6_setShares 38 = .ok (.invokestatic 64, 3) := by decide +kernel
theorem dX6_setShares_41 : decode cX6_setShares 41 = .ok (.ifCond .ne 9, 3) := by decide +kernel
theorem dX6_setShares_44 : decode cX6_setShares 44 = .ok (.aload_n 0, 1) := by decide +kernel
theorem dX6_setShares_45 : decode cX6_setShares 45 = .ok (.iconst 2, 1) := by decide +kernel
theorem dX6_setShares_46 : decode cX6_setShares 46 = .ok (.invokevirtual 45, 3) := by decide +kernel
theorem dX6_setShares_49 : decode cX6_setShares 49 = .ok (.ireturn, 1) := by decide +kernel
theorem dX6_setShares_50 : decode cX6_setShares 50 = .ok (.aload_n 0, 1) := by decide +kernel
theorem dX6_setShares_51 : decode cX6_setShares 51 = .ok (.invokevirtual 68, 3) := by decide +kernel
theorem dX6_setShares_54 : decode cX6_setShares 54 = .ok (.aload_n 0, 1) := by decide +kernel
theorem dX6_setShares_55 : decode cX6_setShares 55 = .ok (.iload_n 1, 1) := by decide +kernel
theorem dX6_setShares_56 : decode cX6_setShares 56 = .ok (.iconst 5, 1) := by decide +kernel
theorem dX6_setShares_57 : decode cX6_setShares 57 = .ok (.invokevirtual 81, 3) := by decide +kernel
theorem dX6_setShares_60 : decode cX6_setShares 60 = .ok (.istore 5, 2) := by decide +kernel
theorem dX6_setShares_62 : decode cX6_setShares 62 = .ok (.aload_n 0, 1) := by decide +kernel
theorem dX6_setShares_63 : decode cX6_setShares 63 = .ok (.getfield 9, 3) := by decide +kernel
theorem dX6_setShares_66 : decode cX6_setShares 66 = .ok (.bipush 54, 2) := by decide +kernel
theorem dX6_setShares_68 : decode cX6_setShares 68 = .ok (.bipush 8, 2) := by decide +kernel
theorem dX6_setShares_70 : decode cX6_setShares 70 = .ok (.iload_n 1, 1) := by decide +kernel
theorem dX6_setShares_71 : decode cX6_setShares 71 = .ok (.imul, 1) := by decide +kernel
theorem dX6_setShares_72 : decode cX6_setShares 72 = .ok (.iadd, 1) := by decide +kernel
theorem dX6_setShares_73 : decode cX6_setShares 73 = .ok (.iconst 5, 1) := by decide +kernel
theorem dX6_setShares_74 : decode cX6_setShares 74 = .ok (.iadd, 1) := by decide +kernel
theorem dX6_setShares_75 : decode cX6_setShares 75 = .ok (.iload_n 2, 1) := by decide +kernel
theorem dX6_setShares_76 : decode cX6_setShares 76 = .ok (.iastore, 1) := by decide +kernel
theorem dX6_setShares_77 : decode cX6_setShares 77 = .ok (.aload_n 0, 1) := by decide +kernel
theorem dX6_setShares_78 : decode cX6_setShares 78 = .ok (.getfield 9, 3) := by decide +kernel
theorem dX6_setShares_81 : decode cX6_setShares 81 = .ok (.bipush 54, 2) := by decide +kernel
theorem dX6_setShares_83 : decode cX6_setShares 83 = .ok (.bipush 8, 2) := by decide +kernel
theorem dX6_setShares_85 : decode cX6_setShares 85 = .ok (.iload_n 1, 1) := by decide +kernel
theorem dX6_setShares_86 : decode cX6_setShares 86 = .ok (.imul, 1) := by decide +kernel
theorem dX6_setShares_87 : decode cX6_setShares 87 = .ok (.iadd, 1) := by decide +kernel
theorem dX6_setShares_88 : decode cX6_setShares 88 = .ok (.bipush 6, 2) := by decide +kernel
theorem dX6_setShares_90 : decode cX6_setShares 90 = .ok (.iadd, 1) := by decide +kernel
theorem dX6_setShares_91 : decode cX6_setShares 91 = .ok (.iload_n 3, 1) := by decide +kernel
theorem dX6_setShares_92 : decode cX6_setShares 92 = .ok (.iastore, 1) := by decide +kernel
theorem dX6_setShares_93 : decode cX6_setShares 93 = .ok (.aload_n 0, 1) := by decide +kernel
theorem dX6_setShares_94 : decode cX6_setShares 94 = .ok (.getfield 9, 3) := by decide +kernel
theorem dX6_setShares_97 : decode cX6_setShares 97 = .ok (.bipush 54, 2) := by decide +kernel
theorem dX6_setShares_99 : decode cX6_setShares 99 = .ok (.bipush 8, 2) := by decide +kernel
theorem dX6_setShares_101 : decode cX6_setShares 101 = .ok (.iload_n 1, 1) := by decide +kernel
theorem dX6_setShares_102 : decode cX6_setShares 102 = .ok (.imul, 1) := by decide +kernel
theorem dX6_setShares_103 : decode cX6_setShares 103 = .ok (.iadd, 1) := by decide +kernel
theorem dX6_setShares_104 : decode cX6_setShares 104 = .ok (.bipush 7, 2) := by decide +kernel
theorem dX6_setShares_106 : decode cX6_setShares 106 = .ok (.iadd, 1) := by decide +kernel
theorem dX6_setShares_107 : decode cX6_setShares 107 = .ok (.iload 4, 2) := by decide +kernel
theorem dX6_setShares_109 : decode cX6_setShares 109 = .ok (.iastore, 1) := by decide +kernel
theorem dX6_setShares_110 : decode cX6_setShares 110 = .ok (.aload_n 0, 1) := by decide +kernel
theorem dX6_setShares_111 : decode cX6_setShares 111 = .ok (.iload 5, 2) := by decide +kernel
theorem dX6_setShares_113 : decode cX6_setShares 113 = .ok (.invokevirtual 71, 3) := by decide +kernel
theorem dX6_setShares_116 : decode cX6_setShares 116 = .ok (.ireturn, 1) := by decide +kernel
set_option maxRecDepth 20000 in
theorem ggX6_addTrailer_X6_isFilm : GoodIn wsX6_addTrailer wsX6_isFilm := goodIn_ca (goodIn_r _ [6, 1, 7, 8, 5, 9, 33, 34, 35, 36, 37, 38, 39, 40, 41, 42, 43, 44, 45, 46, 47, 48, 49, 50, 51, 52, 53, 54, 55, 56, 57, 58, 59] (by decide +kernel) (by decide +kernel)) (goodIn_sub (fun _ h => List.mem_cons_of_mem _ (List.mem_append_right _ h)) (by decide +kernel))
set_option maxRecDepth 20000 in
theorem gX6_addTrailer_X6_isFilm : GoodIn wsX6_addTrailer (wsV RX6 78 RX6 yX6_isFilm wsX6_isFilm) := goodIn_app (goodIn_of _ (by decide +kernel)) ggX6_addTrailer_X6_isFilm
set_option maxRecDepth 20000 in
theorem ggX6_addTrailer_X6_fails : GoodIn wsX6_addTrailer wsX6_fails := goodIn_r _ [13, 14, 33, 34, 35, 36, 37, 38, 39, 40, 41, 42, 43, 44, 45, 46, 47, 48, 49, 50, 51, 52, 53, 54, 55, 56, 57, 58, 59] (by decide +kernel) (by decide +kernel)
set_option maxRecDepth 20000 in
theorem gX6_addTrailer_X6_fails : GoodIn wsX6_addTrailer (wsV RX6 45 RX6 yX6_fails wsX6_fails) := goodIn_app (goodIn_of _ (by decide +kernel)) ggX6_addTrailer_X6_fails
set_option maxRecDepth 20000 in
theorem ggX6_addTrailer_X6_in : GoodIn wsX6_addTrailer wsX6_in := goodIn_r _ [9] (by decide +kernel) (by decide +kernel)
set_option maxRecDepth 20000 in
theorem gX6_addTrailer_X6_in : GoodIn wsX6_addTrailer (va_wsS RX6 64 yX6_in wsX6_in) := goodIn_app (goodIn_of _ (by decide +kernel)) ggX6_addTrailer_X6_in
set_option maxRecDepth 20000 in
theorem ggX6_addTrailer_X6_remembers : GoodIn wsX6_addTrailer wsX6_remembers := goodIn_ca (goodIn_r _ [18, 19, 1, 20, 21, 22, 5, 23, 24, 25, 26, 27, 28, 33, 34, 35, 36, 37, 38, 39, 40, 41, 42, 43, 44, 45, 46, 47, 48, 49, 50, 51, 52, 53, 54, 55, 56, 57, 58, 59] (by decide +kernel) (by decide +kernel)) (goodIn_sub (fun _ h => List.mem_cons_of_mem _ (List.mem_append_right _ h)) (by decide +kernel))
set_option maxRecDepth 20000 in
theorem gX6_addTrailer_X6_remembers : GoodIn wsX6_addTrailer (wsV RX6 68 RX6 yX6_remembers wsX6_remembers) := goodIn_app (goodIn_of _ (by decide +kernel)) ggX6_addTrailer_X6_remembers
set_option maxRecDepth 20000 in
theorem ggX6_addTrailer_X6_done : GoodIn wsX6_addTrailer wsX6_done := goodIn_r _ [32, 14, 33, 34, 35, 36, 37, 38, 39, 40, 41, 42, 43, 44, 45, 46, 47, 48, 49, 50, 51, 52, 53, 54, 55, 56, 57, 58, 59] (by decide +kernel) (by decide +kernel)
set_option maxRecDepth 20000 in
theorem gX6_addTrailer_X6_done : GoodIn wsX6_addTrailer (wsV RX6 71 RX6 yX6_done wsX6_done) := goodIn_app (goodIn_of _ (by decide +kernel)) ggX6_addTrailer_X6_done
