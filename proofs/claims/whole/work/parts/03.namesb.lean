set_option maxRecDepth 20000 in
theorem ggX0_init_X3_init : GoodIn wsX0_init wsX3_init := goodIn_ca (goodIn_r _ [12, 13, 2, 3, 14, 15, 16, 17, 18, 19, 20, 21, 22, 23, 24, 25, 26, 27, 28, 29, 30, 31, 32, 33, 34, 35, 36, 37, 38, 39, 40, 41, 53, 54, 55, 56, 45, 46, 47, 48, 49, 50, 51, 52] (by decide +kernel) (by decide +kernel)) (goodIn_sub (fun _ h => List.mem_cons_of_mem _ (List.mem_append_right _ h)) (by decide +kernel))
set_option maxRecDepth 20000 in
theorem gX0_init_X3_init : GoodIn wsX0_init (wsX3_init) := ggX0_init_X3_init
theorem dX0_init_0 : decode cX0_init 0 = .ok (.aload_n 0, 1) := by decide +kernel
theorem dX0_init_1 : decode cX0_init 1 = .ok (.invokespecial 3, 3) := by decide +kernel
theorem dX0_init_4 : decode cX0_init 4 = .ok (.aload_n 0, 1) := by decide +kernel
theorem dX0_init_5 : decode cX0_init 5 = .ok (.bipush 9, 2) := by decide +kernel
theorem dX0_init_7 : decode cX0_init 7 = .ok (.anewarray 9, 3) := by decide +kernel
theorem dX0_init_10 : decode cX0_init 10 = .ok (.putfield 11, 3) := by decide +kernel
theorem dX0_init_13 : decode cX0_init 13 = .ok (.aload_n 0, 1) := by decide +kernel
theorem dX0_init_14 : decode cX0_init 14 = .ok (.iconst 0, 1) := by decide +kernel
theorem dX0_init_15 : decode cX0_init 15 = .ok (.putfield 17, 3) := by decide +kernel
theorem dX0_init_18 : decode cX0_init 18 = .ok (.aload_n 0, 1) := by decide +kernel
theorem dX0_init_19 : decode cX0_init 19 = .ok (.iconst 0, 1) := by decide +kernel
theorem dX0_init_20 : decode cX0_init 20 = .ok (.putfield 21, 3) := by decide +kernel
theorem dX0_init_23 : decode cX0_init 23 = .ok (.iconst 0, 1) := by decide +kernel
theorem dX0_init_24 : decode cX0_init 24 = .ok (.istore_n 1, 1) := by decide +kernel
theorem dX0_init_25 : decode cX0_init 25 = .ok (.iload_n 1, 1) := by decide +kernel
theorem dX0_init_26 : decode cX0_init 26 = .ok (.aload_n 0, 1) := by decide +kernel
theorem dX0_init_27 : decode cX0_init 27 = .ok (.getfield 11, 3) := by decide +kernel
theorem dX0_init_30 : decode cX0_init 30 = .ok (.arraylength, 1) := by decide +kernel
theorem dX0_init_31 : decode cX0_init 31 = .ok (.if_icmp .ge 22, 3) := by decide +kernel
theorem dX0_init_34 : decode cX0_init 34 = .ok (.aload_n 0, 1) := by decide +kernel
theorem dX0_init_35 : decode cX0_init 35 = .ok (.getfield 11, 3) := by decide +kernel
theorem dX0_init_38 : decode cX0_init 38 = .ok (.iload_n 1, 1) := by decide +kernel
theorem dX0_init_39 : decode cX0_init 39 = .ok (.new 9, 3) := by decide +kernel
theorem dX0_init_42 : decode cX0_init 42 = .ok (.dup, 1) := by decide +kernel
theorem dX0_init_43 : decode cX0_init 43 = .ok (.invokespecial 24, 3) := by decide +kernel
theorem dX0_init_46 : decode cX0_init 46 = .ok (.aastore, 1) := by decide +kernel
theorem dX0_init_47 : decode cX0_init 47 = .ok (.iinc 1 1, 3) := by decide +kernel
theorem dX0_init_50 : decode cX0_init 50 = .ok (.goto (-25), 3) := by decide +kernel
theorem dX0_init_53 : decode cX0_init 53 = .ok (.return_, 1) := by decide +kernel
set_option maxRecDepth 20000 in
theorem ggX0_keep_X0_keepSpare : GoodIn wsX0_keep wsX0_keepSpare := goodIn_r _ [5, 6, 7, 8, 9, 10, 11, 12, 13, 14, 15, 16, 17, 18, 19, 20, 21, 22, 23, 24, 25, 26, 27, 28, 29, 30, 31, 32, 33, 34, 35, 42, 43, 44, 45, 46, 47, 48, 49, 50, 51, 52, 53, 54, 55, 56] (by decide +kernel) (by decide +kernel)
set_option maxRecDepth 20000 in
theorem gX0_keep_X0_keepSpare : GoodIn wsX0_keep (wsV RX0 25 RX0 yX0_keepSpare wsX0_keepSpare) := goodIn_app (goodIn_of _ (by decide +kernel)) ggX0_keep_X0_keepSpare
set_option maxRecDepth 20000 in
theorem ggX0_keep_X0_countSpare : GoodIn wsX0_keep wsX0_countSpare := goodIn_r _ [39, 6, 7, 40, 41, 29, 30, 31, 42, 43, 44] (by decide +kernel) (by decide +kernel)
set_option maxRecDepth 20000 in
theorem gX0_keep_X0_countSpare : GoodIn wsX0_keep (wsV RX0 29 RX0 yX0_countSpare wsX0_countSpare) := goodIn_app (goodIn_of _ (by decide +kernel)) ggX0_keep_X0_countSpare
theorem dX0_keep_0 : decode cX0_keep 0 = .ok (.aload_n 0, 1) := by decide +kernel
theorem dX0_keep_1 : decode cX0_keep 1 = .ok (.aload_n 1, 1) := by decide +kernel
theorem dX0_keep_2 : decode cX0_keep 2 = .ok (.invokevirtual 25, 3) := by decide +kernel
theorem dX0_keep_5 : decode cX0_keep 5 = .ok (.aload_n 0, 1) := by decide +kernel
theorem dX0_keep_6 : decode cX0_keep 6 = .ok (.invokevirtual 29, 3) := by decide +kernel
theorem dX0_keep_9 : decode cX0_keep 9 = .ok (.return_, 1) := by decide +kernel
set_option maxRecDepth 20000 in
theorem ggX0_keepSpare_X3_copyFrom : GoodIn wsX0_keepSpare wsX3_copyFrom := goodIn_r _ [7, 8, 9, 10, 11, 12, 13, 14, 15, 16, 17, 18, 19, 20, 21, 22, 23, 24, 25, 26, 27, 28, 29, 30, 34, 35, 36, 37, 38, 39, 40, 41, 42, 43, 44, 45] (by decide +kernel) (by decide +kernel)
set_option maxRecDepth 20000 in
theorem gX0_keepSpare_X3_copyFrom : GoodIn wsX0_keepSpare (wsV RX0 32 RX3 yX3_copyFrom wsX3_copyFrom) := goodIn_app (goodIn_of _ (by decide +kernel)) ggX0_keepSpare_X3_copyFrom
theorem dX0_keepSpare_0 : decode cX0_keepSpare 0 = .ok (.aload_n 0, 1) := by decide +kernel
theorem dX0_keepSpare_1 : decode cX0_keepSpare 1 = .ok (.getfield 17, 3) := by decide +kernel
theorem dX0_keepSpare_4 : decode cX0_keepSpare 4 = .ok (.ifCond .lt 27, 3) := by decide +kernel
theorem dX0_keepSpare_7 : decode cX0_keepSpare 7 = .ok (.aload_n 0, 1) := by decide +kernel
theorem dX0_keepSpare_8 : decode cX0_keepSpare 8 = .ok (.getfield 17, 3) := by decide +kernel
theorem dX0_keepSpare_11 : decode cX0_keepSpare 11 = .ok (.aload_n 0, 1) := by decide +kernel
theorem dX0_keepSpare_12 : decode cX0_keepSpare 12 = .ok (.getfield 11, 3) := by decide +kernel
theorem dX0_keepSpare_15 : decode cX0_keepSpare 15 = .ok (.arraylength, 1) := by decide +kernel
theorem dX0_keepSpare_16 : decode cX0_keepSpare 16 = .ok (.if_icmp .ge 15, 3) := by decide +kernel
theorem dX0_keepSpare_19 : decode cX0_keepSpare 19 = .ok (.aload_n 0, 1) := by decide +kernel
theorem dX0_keepSpare_20 : decode cX0_keepSpare 20 = .ok (.getfield 11, 3) := by decide +kernel
theorem dX0_keepSpare_23 : decode cX0_keepSpare 23 = .ok (.aload_n 0, 1) := by decide +kernel
theorem dX0_keepSpare_24 : decode cX0_keepSpare 24 = .ok (.getfield 17, 3) := by decide +kernel
theorem dX0_keepSpare_27 : decode cX0_keepSpare 27 = .ok (.aaload, 1) := by decide +kernel
theorem dX0_keepSpare_28 : decode cX0_keepSpare 28 = .ok (.goto 4, 3) := by decide +kernel
theorem dX0_keepSpare_31 : decode cX0_keepSpare 31 = .ok (.aconst_null, 1) := by decide +kernel
theorem dX0_keepSpare_32 : decode cX0_keepSpare 32 = .ok (.astore_n 2, 1) := by decide +kernel
theorem dX0_keepSpare_33 : decode cX0_keepSpare 33 = .ok (.aload_n 2, 1) := by decide +kernel
theorem dX0_keepSpare_34 : decode cX0_keepSpare 34 = .ok (.ifnull 8, 3) := by decide +kernel
theorem dX0_keepSpare_37 : decode cX0_keepSpare 37 = .ok (.aload_n 2, 1) := by decide +kernel
theorem dX0_keepSpare_38 : decode cX0_keepSpare 38 = .ok (.aload_n 1, 1) := by decide +kernel
theorem dX0_keepSpare_39 : decode cX0_keepSpare 39 = .ok (.invokevirtual 32, 3) := by decide +kernel
theorem dX0_keepSpare_42 : decode cX0_keepSpare 42 = .ok (.return_, 1) := by decide +kernel
set_option maxRecDepth 20000 in
theorem ggX0_bringSpareBack_X3_copyFrom : GoodIn wsX0_bringSpareBack wsX3_copyFrom := goodIn_r _ [7, 8, 9, 10, 11, 12, 13, 14, 15, 16, 17, 18, 19, 20, 21, 22, 23, 24, 25, 26, 27, 28, 29, 30, 34, 35, 36, 37, 38, 39, 40, 41, 42, 43, 44, 45] (by decide +kernel) (by decide +kernel)
set_option maxRecDepth 20000 in
theorem gX0_bringSpareBack_X3_copyFrom : GoodIn wsX0_bringSpareBack (wsV RX0 32 RX3 yX3_copyFrom wsX3_copyFrom) := goodIn_app (goodIn_of _ (by decide +kernel)) ggX0_bringSpareBack_X3_copyFrom
theorem dX0_bringSpareBack_0 : decode cX0_bringSpareBack 0 = .ok (.aload_n 0, 1) := by decide +kernel
theorem dX0_bringSpareBack_1 : decode cX0_bringSpareBack 1 = .ok (.getfield 17, 3) := by decide +kernel
theorem dX0_bringSpareBack_4 : decode cX0_bringSpareBack 4 = .ok (.ifCond .lt 27, 3) := by decide +kernel
theorem dX0_bringSpareBack_7 : decode cX0_bringSpareBack 7 = .ok (.aload_n 0, 1) := by decide +kernel
theorem dX0_bringSpareBack_8 : decode cX0_bringSpareBack 8 = .ok (.getfield 17, 3) := by decide +kernel
theorem dX0_bringSpareBack_11 : decode cX0_bringSpareBack 11 = .ok (.aload_n 0, 1) := by decide +kernel
theorem dX0_bringSpareBack_12 : decode cX0_bringSpareBack 12 = .ok (.getfield 11, 3) := by decide +kernel
theorem dX0_bringSpareBack_15 : decode cX0_bringSpareBack 15 = .ok (.arraylength, 1) := by decide +kernel
theorem dX0_bringSpareBack_16 : decode cX0_bringSpareBack 16 = .ok (.if_icmp .ge 15, 3) := by decide +kernel
theorem dX0_bringSpareBack_19 : decode cX0_bringSpareBack 19 = .ok (.aload_n 0, 1) := by decide +kernel
theorem dX0_bringSpareBack_20 : decode cX0_bringSpareBack 20 = .ok (.getfield 11, 3) := by decide +kernel
theorem dX0_bringSpareBack_23 : decode cX0_bringSpareBack 23 = .ok (.aload_n 0, 1) := by decide +kernel
theorem dX0_bringSpareBack_24 : decode cX0_bringSpareBack 24 = .ok (.getfield 17, 3) := by decide +kernel
theorem dX0_bringSpareBack_27 : decode cX0_bringSpareBack 27 = .ok (.aaload, 1) := by decide +kernel
theorem dX0_bringSpareBack_28 : decode cX0_bringSpareBack 28 = .ok (.goto 4, 3) := by decide +kernel
theorem dX0_bringSpareBack_31 : decode cX0_bringSpareBack 31 = .ok (.aconst_null, 1) := by decide +kernel
theorem dX0_bringSpareBack_32 : decode cX0_bringSpareBack 32 = .ok (.astore_n 2, 1) := by decide +kernel
theorem dX0_bringSpareBack_33 : decode cX0_bringSpareBack 33 = .ok (.aload_n 2, 1) := by decide +kernel
theorem dX0_bringSpareBack_34 : decode cX0_bringSpareBack 34 = .ok (.ifnull 8, 3) := by decide +kernel
theorem dX0_bringSpareBack_37 : decode cX0_bringSpareBack 37 = .ok (.aload_n 1, 1) := by decide +kernel
theorem dX0_bringSpareBack_38 : decode cX0_bringSpareBack 38 = .ok (.aload_n 2, 1) := by decide +kernel
theorem dX0_bringSpareBack_39 : decode cX0_bringSpareBack 39 = .ok (.invokevirtual 32, 3) := by decide +kernel
theorem dX0_bringSpareBack_42 : decode cX0_bringSpareBack 42 = .ok (.return_, 1) := by decide +kernel
theorem dX0_countSpare_0 : decode cX0_countSpare 0 = .ok (.aload_n 0, 1) := by decide +kernel
theorem dX0_countSpare_1 : decode cX0_countSpare 1 = .ok (.aload_n 0, 1) := by decide +kernel
theorem dX0_countSpare_2 : decode cX0_countSpare 2 = .ok (.getfield 17, 3) := by decide +kernel
theorem dX0_countSpare_5 : decode cX0_countSpare 5 = .ok (.iconst 1, 1) := by decide +kernel
theorem dX0_countSpare_6 : decode cX0_countSpare 6 = .ok (.iadd, 1) := by decide +kernel
theorem dX0_countSpare_7 : decode cX0_countSpare 7 = .ok (.aload_n 0, 1) := by decide +kernel
theorem dX0_countSpare_8 : decode cX0_countSpare 8 = .ok (.getfield 11, 3) := by decide +kernel
theorem dX0_countSpare_11 : decode cX0_countSpare 11 = .ok (.arraylength, 1) := by decide +kernel
theorem dX0_countSpare_12 : decode cX0_countSpare 12 = .ok (.if_icmp .ge 12, 3) := by decide +kernel
theorem dX0_countSpare_15 : decode cX0_countSpare 15 = .ok (.aload_n 0, 1) := by decide +kernel
theorem dX0_countSpare_16 : decode cX0_countSpare 16 = .ok (.getfield 17, 3) := by decide +kernel
theorem dX0_countSpare_19 : decode cX0_countSpare 19 = .ok (.iconst 1, 1) := by decide +kernel
theorem dX0_countSpare_20 : decode cX0_countSpare 20 = .ok (.iadd, 1) := by decide +kernel
theorem dX0_countSpare_21 : decode cX0_countSpare 21 = .ok (.goto 4, 3) := by decide +kernel
theorem dX0_countSpare_24 : decode cX0_countSpare 24 = .ok (.iconst 0, 1) := by decide +kernel
theorem dX0_countSpare_25 : decode cX0_countSpare 25 = .ok (.putfield 17, 3) := by decide +kernel
theorem dX0_countSpare_28 : decode cX0_countSpare 28 = .ok (.aload_n 0, 1) := by decide +kernel
theorem dX0_countSpare_29 : decode cX0_countSpare 29 = .ok (.aload_n 0, 1) := by decide +kernel
theorem dX0_countSpare_30 : decode cX0_countSpare 30 = .ok (.getfield 21, 3) := by decide +kernel
theorem dX0_countSpare_33 : decode cX0_countSpare 33 = .ok (.iconst 1, 1) := by decide +kernel
theorem dX0_countSpare_34 : decode cX0_countSpare 34 = .ok (.iadd, 1) := by decide +kernel
theorem dX0_countSpare_35 : decode cX0_countSpare 35 = .ok (.bipush 8, 2) := by decide +kernel
theorem dX0_countSpare_37 : decode cX0_countSpare 37 = .ok (.invokestatic 35, 3) := by decide +kernel
theorem dX0_countSpare_40 : decode cX0_countSpare 40 = .ok (.putfield 21, 3) := by decide +kernel
theorem dX0_countSpare_43 : decode cX0_countSpare 43 = .ok (.return_, 1) := by decide +kernel
set_option maxRecDepth 20000 in
theorem ggX0_stepBack_X0_bringSpareBack : GoodIn wsX0_stepBack wsX0_bringSpareBack := goodIn_r _ [8, 1, 2, 9, 10, 11, 12, 13, 14, 15, 16, 17, 18, 19, 20, 21, 22, 23, 24, 25, 26, 27, 28, 29, 30, 31, 32, 33, 34, 35, 36, 37, 38, 39, 40, 41, 42, 43, 44, 45, 46, 47, 48, 49, 50, 51] (by decide +kernel) (by decide +kernel)
set_option maxRecDepth 20000 in
theorem gX0_stepBack_X0_bringSpareBack : GoodIn wsX0_stepBack (wsV RX0 41 RX0 yX0_bringSpareBack wsX0_bringSpareBack) := goodIn_app (goodIn_of _ (by decide +kernel)) ggX0_stepBack_X0_bringSpareBack
theorem dX0_stepBack_0 : decode cX0_stepBack 0 = .ok (.aload_n 0, 1) := by decide +kernel
theorem dX0_stepBack_1 : decode cX0_stepBack 1 = .ok (.aload_n 0, 1) := by decide +kernel
theorem dX0_stepBack_2 : decode cX0_stepBack 2 = .ok (.getfield 17, 3) := by decide +kernel
theorem dX0_stepBack_5 : decode cX0_stepBack 5 = .ok (.ifCond .le 12, 3) := by decide +kernel
theorem dX0_stepBack_8 : decode cX0_stepBack 8 = .ok (.aload_n 0, 1) := by decide +kernel
theorem dX0_stepBack_9 : decode cX0_stepBack 9 = .ok (.getfield 17, 3) := by decide +kernel
theorem dX0_stepBack_12 : decode cX0_stepBack 12 = .ok (.iconst 1, 1) := by decide +kernel
theorem dX0_stepBack_13 : decode cX0_stepBack 13 = .ok (.isub, 1) := by decide +kernel
theorem dX0_stepBack_14 : decode cX0_stepBack 14 = .ok (.goto 10, 3) := by decide +kernel
theorem dX0_stepBack_17 : decode cX0_stepBack 17 = .ok (.aload_n 0, 1) := by decide +kernel
theorem dX0_stepBack_18 : decode cX0_stepBack 18 = .ok (.getfield 11, 3) := by decide +kernel
theorem dX0_stepBack_21 : decode cX0_stepBack 21 = .ok (.arraylength, 1) := by decide +kernel
theorem dX0_stepBack_22 : decode cX0_stepBack 22 = .ok (.iconst 1, 1) := by decide +kernel
theorem dX0_stepBack_23 : decode cX0_stepBack 23 = .ok (.isub, 1) := by decide +kernel
theorem dX0_stepBack_24 : decode cX0_stepBack 24 = .ok (.putfield 17, 3) := by decide +kernel
theorem dX0_stepBack_27 : decode cX0_stepBack 27 = .ok (.aload_n 0, 1) := by decide +kernel
theorem dX0_stepBack_28 : decode cX0_stepBack 28 = .ok (.dup, 1) := by decide +kernel
theorem dX0_stepBack_29 : decode cX0_stepBack 29 = .ok (.getfield 21, 3) := by decide +kernel
theorem dX0_stepBack_32 : decode cX0_stepBack 32 = .ok (.iconst 1, 1) := by decide +kernel
theorem dX0_stepBack_33 : decode cX0_stepBack 33 = .ok (.isub, 1) := by decide +kernel
theorem dX0_stepBack_34 : decode cX0_stepBack 34 = .ok (.putfield 21, 3) := by decide +kernel
theorem dX0_stepBack_37 : decode cX0_stepBack 37 = .ok (.aload_n 0, 1) := by decide +kernel
theorem dX0_stepBack_38 : decode cX0_stepBack 38 = .ok (.aload_n 1, 1) := by decide +kernel
theorem dX0_stepBack_39 : decode cX0_stepBack 39 = .ok (.invokevirtual 41, 3) := by decide +kernel
theorem dX0_stepBack_42 : decode cX0_stepBack 42 = .ok (.return_, 1) := by decide +kernel
theorem dX0_forget_0 : decode cX0_forget 0 = .ok (.aload_n 0, 1) := by decide +kernel
theorem dX0_forget_1 : decode cX0_forget 1 = .ok (.iconst 0, 1) := by decide +kernel
theorem dX0_forget_2 : decode cX0_forget 2 = .ok (.putfield 21, 3) := by decide +kernel
theorem dX0_forget_5 : decode cX0_forget 5 = .ok (.return_, 1) := by decide +kernel
set_option maxRecDepth 20000 in
theorem ggX1_init_X4_init : GoodIn wsX1_init wsX4_init := goodIn_r _ [11, 12, 2, 3, 13, 14, 15, 16, 17, 18, 19, 20, 21, 22, 23, 24, 25] (by decide +kernel) (by decide +kernel)
set_option maxRecDepth 20000 in
theorem gX1_init_X4_init : GoodIn wsX1_init (wsX4_init) := ggX1_init_X4_init
theorem dX1_init_0 : decode cX1_init 0 = .ok (.aload_n 0, 1) := by decide +kernel
theorem dX1_init_1 : decode cX1_init 1 = .ok (.invokespecial 3, 3) := by decide +kernel
theorem dX1_init_4 : decode cX1_init 4 = .ok (.aload_n 0, 1) := by decide +kernel
theorem dX1_init_5 : decode cX1_init 5 = .ok (.new 9, 3) := by decide +kernel
theorem dX1_init_8 : decode cX1_init 8 = .ok (.dup, 1) := by decide +kernel
theorem dX1_init_9 : decode cX1_init 9 = .ok (.bipush 8, 2) := by decide +kernel
theorem dX1_init_11 : decode cX1_init 11 = .ok (.iconst 5, 1) := by decide +kernel
theorem dX1_init_12 : decode cX1_init 12 = .ok (.invokespecial 11, 3) := by decide +kernel
theorem dX1_init_15 : decode cX1_init 15 = .ok (.putfield 14, 3) := by decide +kernel
theorem dX1_init_18 : decode cX1_init 18 = .ok (.aload_n 0, 1) := by decide +kernel
theorem dX1_init_19 : decode cX1_init 19 = .ok (.iconst 0, 1) := by decide +kernel
theorem dX1_init_20 : decode cX1_init 20 = .ok (.putfield 20, 3) := by decide +kernel
theorem dX1_init_23 : decode cX1_init 23 = .ok (.return_, 1) := by decide +kernel
set_option maxRecDepth 20000 in
theorem ggX1_isText_X4_clear : GoodIn wsX1_isText wsX4_clear := goodIn_r _ [7, 8, 130, 131, 132, 133] (by decide +kernel) (by decide +kernel)
set_option maxRecDepth 20000 in
theorem gX1_isText_X4_clear : GoodIn wsX1_isText (wsV RX1 24 RX4 yX4_clear wsX4_clear) := goodIn_app (goodIn_of _ (by decide +kernel)) ggX1_isText_X4_clear
set_option maxRecDepth 20000 in
theorem ggX1_isText_X1_isCommandRead : GoodIn wsX1_isText wsX1_isCommandRead := goodIn_ca (goodIn_r _ [13, 2, 14, 1, 15, 16, 17, 12, 18, 19, 20, 21, 22, 23, 24, 25, 26, 27, 28, 29, 30, 31, 32, 33, 34, 35, 36, 37, 38, 39, 40, 41, 42, 43, 44, 45, 46, 47, 48, 49, 50, 51, 52, 53, 54, 55, 56, 57, 58, 59, 60, 61, 62, 63, 64, 65, 66, 67, 68, 69, 70, 71, 72, 73, 74, 75, 76, 77, 78, 79, 80, 81, 82, 83, 84, 85, 86, 87, 88, 89, 90, 91, 92, 93, 94, 95, 96, 97, 98, 99, 100, 101, 102, 103, 104, 105, 106, 107, 108, 6, 109, 8, 110, 111, 112, 113, 114, 115, 116, 117, 118, 119, 120, 121, 122, 123, 124, 125, 126, 127, 128, 129, 134, 135, 136, 137, 138, 139, 140, 141, 130, 131, 132, 133] (by decide +kernel) (by decide +kernel)) (goodIn_sub (fun _ h => List.mem_cons_of_mem _ (List.mem_append_right _ h)) (by decide +kernel))
set_option maxRecDepth 20000 in
theorem gX1_isText_X1_isCommandRead : GoodIn wsX1_isText (wsV RX1 27 RX1 yX1_isCommandRead wsX1_isCommandRead) := goodIn_app (goodIn_of _ (by decide +kernel)) ggX1_isText_X1_isCommandRead
set_option maxRecDepth 20000 in
theorem ggX1_isText_J4_length_8abf5 : GoodIn wsX1_isText wsJ4_length_8abf5 := goodIn_r _ [46, 47, 48, 49, 50, 51, 52, 53, 138, 139, 140, 141] (by decide +kernel) (by decide +kernel)
set_option maxRecDepth 20000 in
theorem gX1_isText_J4_length_8abf5 : GoodIn wsX1_isText (wsV RX1 31 RJ4 yJ4_length_8abf5 wsJ4_length_8abf5) := goodIn_app (goodIn_of _ (by decide +kernel)) ggX1_isText_J4_length_8abf5
set_option maxRecDepth 20000 in
theorem ggX1_isText_X1_isSignRead : GoodIn wsX1_isText wsX1_isSignRead := goodIn_r _ [120, 1, 39, 40, 12, 41, 42, 43, 44, 45, 46, 47, 48, 49, 50, 51, 52, 53, 54, 55, 56, 57, 58, 59, 60, 61, 62, 63, 64, 65, 21, 66, 67, 68, 30, 69, 70, 71, 72, 73, 74, 75, 76, 77, 78, 79, 80, 81, 82, 83, 84, 128, 129, 138, 139, 140, 141] (by decide +kernel) (by decide +kernel)
set_option maxRecDepth 20000 in
theorem gX1_isText_X1_isSignRead : GoodIn wsX1_isText (wsV RX1 37 RX1 yX1_isSignRead wsX1_isSignRead) := goodIn_app (goodIn_of _ (by decide +kernel)) ggX1_isText_X1_isSignRead
theorem dX1_isText_0 : decode cX1_isText 0 = .ok (.aload_n 0, 1) := by decide +kernel
theorem dX1_isText_1 : decode cX1_isText 1 = .ok (.iconst 0, 1) := by decide +kernel
theorem dX1_isText_2 : decode cX1_isText 2 = .ok (.putfield 20, 3) := by decide +kernel
theorem dX1_isText_5 : decode cX1_isText 5 = .ok (.aload_n 0, 1) := by decide +kernel
theorem dX1_isText_6 : decode cX1_isText 6 = .ok (.getfield 14, 3) := by decide +kernel
theorem dX1_isText_9 : decode cX1_isText 9 = .ok (.invokevirtual 24, 3) := by decide +kernel
theorem dX1_isText_12 : decode cX1_isText 12 = .ok (.iconst 0, 1) := by decide +kernel
theorem dX1_isText_13 : decode cX1_isText 13 = .ok (.istore_n 2, 1) := by decide +kernel
theorem dX1_isText_14 : decode cX1_isText 14 = .ok (.iload_n 2, 1) := by decide +kernel
theorem dX1_isText_15 : decode cX1_isText 15 = .ok (.bipush 60, 2) := by decide +kernel
theorem dX1_isText_17 : decode cX1_isText 17 = .ok (.if_icmp .gt 44, 3) := by decide +kernel
theorem dX1_isText_20 : decode cX1_isText 20 = .ok (.aload_n 0, 1) := by decide +kernel
theorem dX1_isText_21 : decode cX1_isText 21 = .ok (.aload_n 1, 1) := by decide +kernel
theorem dX1_isText_22 : decode cX1_isText 22 = .ok (.invokevirtual 27, 3) := by decide +kernel
theorem dX1_isText_25 : decode cX1_isText 25 = .ok (.ifCond .ne 5, 3) := by decide +kernel
theorem dX1_isText_28 : decode cX1_isText 28 = .ok (.iconst 0, 1) := by decide +kernel
theorem dX1_isText_29 : decode cX1_isText 29 = .ok (.ireturn, 1) := by decide +kernel
theorem dX1_isText_30 : decode cX1_isText 30 = .ok (.aload_n 0, 1) := by decide +kernel
theorem dX1_isText_31 : decode cX1_isText 31 = .ok (.getfield 20, 3) := by decide +kernel
theorem dX1_isText_34 : decode cX1_isText 34 = .ok (.aload_n 1, 1) := by decide +kernel
theorem dX1_isText_35 : decode cX1_isText 35 = .ok (.invokevirtual 31, 3) := by decide +kernel
theorem dX1_isText_38 : decode cX1_isText 38 = .ok (.if_icmp .ne 5, 3) := by decide +kernel
theorem dX1_isText_41 : decode cX1_isText 41 = .ok (.iconst 1, 1) := by decide +kernel
theorem dX1_isText_42 : decode cX1_isText 42 = .ok (.ireturn, 1) := by decide +kernel
theorem dX1_isText_43 : decode cX1_isText 43 = .ok (.aload_n 0, 1) := by decide +kernel
theorem dX1_isText_44 : decode cX1_isText 44 = .ok (.aload_n 1, 1) := by decide +kernel
theorem dX1_isText_45 : decode cX1_isText 45 = .ok (.bipush 59, 2) := by decide +kernel
theorem dX1_isText_47 : decode cX1_isText 47 = .ok (.invokevirtual 37, 3) := by decide +kernel
theorem dX1_isText_50 : decode cX1_isText 50 = .ok (.ifCond .ne 5, 3) := by decide +kernel
theorem dX1_isText_53 : decode cX1_isText 53 = .ok (.iconst 0, 1) := by decide +kernel
theorem dX1_isText_54 : decode cX1_isText 54 = .ok (.ireturn, 1) := by decide +kernel
theorem dX1_isText_55 : decode cX1_isText 55 = .ok (.iinc 2 1, 3) := by decide +kernel
theorem dX1_isText_58 : decode cX1_isText 58 = .ok (.goto (-44), 3) := by decide +kernel
theorem dX1_isText_61 : decode cX1_isText 61 = .ok (.iconst 0, 1) := by decide +kernel
theorem dX1_isText_62 : decode cX1_isText 62 = .ok (.ireturn, 1) := by decide +kernel
set_option maxRecDepth 20000 in
theorem ggX1_signAt_J4_length_8abf5 : GoodIn wsX1_signAt wsJ4_length_8abf5 := goodIn_r _ [5, 6, 7, 8, 9, 10, 11, 12, 46, 47, 48, 49] (by decide +kernel) (by decide +kernel)
set_option maxRecDepth 20000 in
theorem gX1_signAt_J4_length_8abf5 : GoodIn wsX1_signAt (wsV RX1 31 RJ4 yJ4_length_8abf5 wsJ4_length_8abf5) := goodIn_app (goodIn_of _ (by decide +kernel)) ggX1_signAt_J4_length_8abf5
set_option maxRecDepth 20000 in
theorem ggX1_signAt_J4_charAt_5068e : GoodIn wsX1_signAt wsJ4_charAt_5068e := goodIn_r _ [16, 17, 18, 8, 19, 10, 20, 21, 22, 12, 23, 24, 25, 26, 27, 28, 29, 30, 31, 32, 33, 34, 35, 36, 37, 38, 39, 40, 41, 42, 43, 44, 45, 46, 47, 48, 49] (by decide +kernel) (by decide +kernel)
set_option maxRecDepth 20000 in
theorem gX1_signAt_J4_charAt_5068e : GoodIn wsX1_signAt (wsV RX1 41 RJ4 yJ4_charAt_5068e wsJ4_charAt_5068e) := goodIn_app (goodIn_of _ (by decide +kernel)) ggX1_signAt_J4_charAt_5068e
theorem dX1_signAt_0 : decode cX1_signAt 0 = .ok (.iload_n 1, 1) := by decide +kernel
theorem dX1_signAt_1 : decode cX1_signAt 1 = .ok (.ifCond .lt 19, 3) := by decide +kernel
theorem dX1_signAt_4 : decode cX1_signAt 4 = .ok (.iload_n 1, 1) := by decide +kernel
theorem dX1_signAt_5 : decode cX1_signAt 5 = .ok (.aload_n 0, 1) := by decide +kernel
theorem dX1_signAt_6 : decode cX1_signAt 6 = .ok (.invokevirtual 31, 3) := by decide +kernel
theorem dX1_signAt_9 : decode cX1_signAt 9 = .ok (.if_icmp .ge 11, 3) := by decide +kernel
theorem dX1_signAt_12 : decode cX1_signAt 12 = .ok (.aload_n 0, 1) := by decide +kernel
theorem dX1_signAt_13 : decode cX1_signAt 13 = .ok (.iload_n 1, 1) := by decide +kernel
theorem dX1_signAt_14 : decode cX1_signAt 14 = .ok (.invokevirtual 41, 3) := by decide +kernel
theorem dX1_signAt_17 : decode cX1_signAt 17 = .ok (.goto 4, 3) := by decide +kernel
theorem dX1_signAt_20 : decode cX1_signAt 20 = .ok (.iconst (-1), 1) := by decide +kernel
theorem dX1_signAt_21 : decode cX1_signAt 21 = .ok (.ireturn, 1) := by decide +kernel
set_option maxRecDepth 20000 in
theorem ggX1_isSignRead_X1_signAt : GoodIn wsX1_isSignRead wsX1_signAt := goodIn_r _ [5, 6, 7, 8, 9, 10, 11, 12, 13, 14, 15, 16, 17, 18, 19, 20, 21, 22, 23, 24, 25, 26, 27, 28, 29, 30, 31, 32, 33, 34, 35, 36, 37, 38, 39, 40, 41, 42, 43, 44, 45, 46, 47, 48, 49, 50, 53, 54, 55, 56] (by decide +kernel) (by decide +kernel)
set_option maxRecDepth 20000 in
theorem gX1_isSignRead_X1_signAt : GoodIn wsX1_isSignRead (va_wsS RX1 45 yX1_signAt wsX1_signAt) := goodIn_app (goodIn_of _ (by decide +kernel)) ggX1_isSignRead_X1_signAt
theorem dX1_isSignRead_0 : decode cX1_isSignRead 0 = .ok (.aload_n 1, 1) := by decide +kernel
theorem dX1_isSignRead_1 : decode cX1_isSignRead 1 = .ok (.aload_n 0, 1) := by decide +kernel
theorem dX1_isSignRead_2 : decode cX1_isSignRead 2 = .ok (.getfield 20, 3) := by decide +kernel
theorem dX1_isSignRead_5 : decode cX1_isSignRead 5 = .ok (.invokestatic 45, 3) := by decide +kernel
theorem dX1_isSignRead_8 : decode cX1_isSignRead 8 = .ok (.iload_n 2, 1) := by decide +kernel
theorem dX1_isSignRead_9 : decode cX1_isSignRead 9 = .ok (.if_icmp .ne 7, 3) := by decide +kernel
theorem dX1_isSignRead_12 : decode cX1_isSignRead 12 = .ok (.iconst 1, 1) := by decide +kernel
theorem dX1_isSignRead_13 : decode cX1_isSignRead 13 = .ok (.goto 4, 3) := by decide +kernel
theorem dX1_isSignRead_16 : decode cX1_isSignRead 16 = .ok (.iconst 0, 1) := by decide +kernel
theorem dX1_isSignRead_17 : decode cX1_isSignRead 17 = .ok (.istore_n 3, 1) := by decide +kernel
theorem dX1_isSignRead_18 : decode cX1_isSignRead 18 = .ok (.iload_n 3, 1) := by decide +kernel
theorem dX1_isSignRead_19 : decode cX1_isSignRead 19 = .ok (.ifCond .eq 13, 3) := by decide +kernel
theorem dX1_isSignRead_22 : decode cX1_isSignRead 22 = .ok (.aload_n 0, 1) := by decide +kernel
theorem dX1_isSignRead_23 : decode cX1_isSignRead 23 = .ok (.dup, 1) := by decide +kernel
theorem dX1_isSignRead_24 : decode cX1_isSignRead 24 = .ok (.getfield 20, 3) := by decide +kernel
theorem dX1_isSignRead_27 : decode cX1_isSignRead 27 = .ok (.iconst 1, 1) := by decide +kernel
theorem dX1_isSignRead_28 : decode cX1_isSignRead 28 = .ok (.iadd, 1) := by decide +kernel
theorem dX1_isSignRead_29 : decode cX1_isSignRead 29 = .ok (.putfield 20, 3) := by decide +kernel
theorem dX1_isSignRead_32 : decode cX1_isSignRead 32 = .ok (.iload_n 3, 1) := by decide +kernel
theorem dX1_isSignRead_33 : decode cX1_isSignRead 33 = .ok (.ireturn, 1) := by decide +kernel
set_option maxRecDepth 20000 in
theorem ggX1_isCommandRead_X1_readWord : GoodIn wsX1_isCommandRead wsX1_readWord := goodIn_r _ [8, 2, 9, 10, 11, 12, 3, 13, 14, 15, 7, 16, 17, 18, 19, 20, 21, 22, 23, 24, 25, 26, 27, 28, 29, 30, 31, 32, 33, 34, 35, 36, 37, 38, 39, 40, 41, 42, 43, 44, 45, 46, 47, 48, 49, 50, 51, 52, 53, 54, 55, 56, 57, 58, 59, 60, 61, 62, 63, 64, 65, 66, 67, 68, 69, 70, 71, 72, 73, 74, 75, 76, 77, 78, 79, 80, 81, 82, 83, 84, 85, 86, 87, 88, 89, 90, 91, 92, 93, 94, 95, 120, 121, 122, 123, 124, 125, 126, 127, 128, 129] (by decide +kernel) (by decide +kernel)
set_option maxRecDepth 20000 in
theorem gX1_isCommandRead_X1_readWord : GoodIn wsX1_isCommandRead (wsV RX1 49 RX1 yX1_readWord wsX1_readWord) := goodIn_app (goodIn_of _ (by decide +kernel)) ggX1_isCommandRead_X1_readWord
set_option maxRecDepth 20000 in
theorem ggX1_isCommandRead_X4_addRow : GoodIn wsX1_isCommandRead wsX4_addRow := goodIn_ca (goodIn_r _ [100, 101, 102, 103, 104, 130, 131, 132, 133] (by decide +kernel) (by decide +kernel)) (goodIn_sub (fun _ h => List.mem_cons_of_mem _ (List.mem_append_right _ h)) (by decide +kernel))
set_option maxRecDepth 20000 in
theorem gX1_isCommandRead_X4_addRow : GoodIn wsX1_isCommandRead (wsV RX1 53 RX4 yX4_addRow wsX4_addRow) := goodIn_app (goodIn_of _ (by decide +kernel)) ggX1_isCommandRead_X4_addRow
set_option maxRecDepth 20000 in
theorem ggX1_isCommandRead_X4_put : GoodIn wsX1_isCommandRead wsX4_put := goodIn_ca (goodIn_r _ [108, 103, 104, 130, 131, 132, 133] (by decide +kernel) (by decide +kernel)) (goodIn_sub (fun _ h => List.mem_cons_of_mem _ (List.mem_append_right _ h)) (by decide +kernel))
set_option maxRecDepth 20000 in
theorem gX1_isCommandRead_X4_put : GoodIn wsX1_isCommandRead (wsV RX1 56 RX4 yX4_put wsX4_put) := goodIn_app (goodIn_of _ (by decide +kernel)) ggX1_isCommandRead_X4_put
set_option maxRecDepth 20000 in
theorem ggX1_isCommandRead_X1_isSignRead : GoodIn wsX1_isCommandRead wsX1_isSignRead := goodIn_r _ [112, 3, 29, 30, 7, 31, 32, 33, 34, 35, 36, 37, 38, 39, 40, 41, 42, 43, 44, 45, 46, 47, 48, 49, 50, 51, 52, 53, 54, 55, 11, 56, 57, 58, 20, 59, 60, 61, 62, 63, 64, 65, 66, 67, 68, 69, 70, 71, 72, 73, 74, 120, 121, 126, 127, 128, 129] (by decide +kernel) (by decide +kernel)
set_option maxRecDepth 20000 in
theorem gX1_isCommandRead_X1_isSignRead : GoodIn wsX1_isCommandRead (wsV RX1 37 RX1 yX1_isSignRead wsX1_isSignRead) := goodIn_app (goodIn_of _ (by decide +kernel)) ggX1_isCommandRead_X1_isSignRead
set_option maxRecDepth 20000 in
theorem ggX1_isCommandRead_X1_signAt : GoodIn wsX1_isCommandRead wsX1_signAt := goodIn_r _ [31, 32, 33, 34, 35, 36, 37, 38, 39, 40, 41, 42, 43, 44, 45, 46, 47, 48, 49, 50, 51, 52, 53, 54, 55, 11, 56, 57, 58, 20, 59, 60, 61, 62, 63, 64, 65, 66, 67, 68, 69, 70, 71, 72, 73, 74, 126, 127, 128, 129] (by decide +kernel) (by decide +kernel)
set_option maxRecDepth 20000 in
theorem gX1_isCommandRead_X1_signAt : GoodIn wsX1_isCommandRead (va_wsS RX1 45 yX1_signAt wsX1_signAt) := goodIn_app (goodIn_of _ (by decide +kernel)) ggX1_isCommandRead_X1_signAt
set_option maxRecDepth 20000 in
theorem ggX1_isCommandRead_X1_isDigit : GoodIn wsX1_isCommandRead wsX1_isDigit := goodIn_r _ [115] (by decide +kernel) (by decide +kernel)
set_option maxRecDepth 20000 in
theorem gX1_isCommandRead_X1_isDigit : GoodIn wsX1_isCommandRead (va_wsS RX1 64 yX1_isDigit wsX1_isDigit) := goodIn_app (goodIn_of _ (by decide +kernel)) ggX1_isCommandRead_X1_isDigit
set_option maxRecDepth 20000 in
theorem ggX1_isCommandRead_X1_readNumber : GoodIn wsX1_isCommandRead wsX1_readNumber := goodIn_r _ [119, 3, 29, 30, 7, 31, 32, 33, 34, 35, 36, 37, 38, 39, 40, 41, 42, 43, 44, 45, 46, 47, 48, 49, 50, 51, 52, 53, 54, 55, 11, 56, 57, 58, 20, 59, 60, 61, 62, 63, 64, 65, 66, 67, 68, 69, 70, 71, 72, 73, 74, 113, 114, 115, 120, 121, 126, 127, 128, 129] (by decide +kernel) (by decide +kernel)
set_option maxRecDepth 20000 in
theorem gX1_isCommandRead_X1_readNumber : GoodIn wsX1_isCommandRead (wsV RX1 68 RX1 yX1_readNumber wsX1_readNumber) := goodIn_app (goodIn_of _ (by decide +kernel)) ggX1_isCommandRead_X1_readNumber
theorem dX1_isCommandRead_0 : decode cX1_isCommandRead 0 = .ok (.aload_n 0, 1) := by decide +kernel
theorem dX1_isCommandRead_1 : decode cX1_isCommandRead 1 = .ok (.aload_n 1, 1) := by decide +kernel
theorem dX1_isCommandRead_2 : decode cX1_isCommandRead 2 = .ok (.invokevirtual 49, 3) := by decide +kernel
theorem dX1_isCommandRead_5 : decode cX1_isCommandRead 5 = .ok (.istore_n 2, 1) := by decide +kernel
theorem dX1_isCommandRead_6 : decode cX1_isCommandRead 6 = .ok (.iload_n 2, 1) := by decide +kernel
theorem dX1_isCommandRead_7 : decode cX1_isCommandRead 7 = .ok (.iconst (-1), 1) := by decide +kernel
theorem dX1_isCommandRead_8 : decode cX1_isCommandRead 8 = .ok (.if_icmp .ne 5, 3) := by decide +kernel
theorem dX1_isCommandRead_11 : decode cX1_isCommandRead 11 = .ok (.iconst 0, 1) := by decide +kernel
theorem dX1_isCommandRead_12 : decode cX1_isCommandRead 12 = .ok (.ireturn, 1) := by decide +kernel
theorem dX1_isCommandRead_13 : decode cX1_isCommandRead 13 = .ok (.aload_n 0, 1) := by decide +kernel
theorem dX1_isCommandRead_14 : decode cX1_isCommandRead 14 = .ok (.getfield 14, 3) := by decide +kernel
theorem dX1_isCommandRead_17 : decode cX1_isCommandRead 17 = .ok (.invokevirtual 53, 3) := by decide +kernel
theorem dX1_isCommandRead_20 : decode cX1_isCommandRead 20 = .ok (.istore_n 3, 1) := by decide +kernel
theorem dX1_isCommandRead_21 : decode cX1_isCommandRead 21 = .ok (.aload_n 0, 1) := by decide +kernel
theorem dX1_isCommandRead_22 : decode cX1_isCommandRead 22 = .ok (.getfield 14, 3) := by decide +kernel
theorem dX1_isCommandRead_25 : decode cX1_isCommandRead 25 = .ok (.iload_n 3, 1) := by decide +kernel
theorem dX1_isCommandRead_26 : decode cX1_isCommandRead 26 = .ok (.iconst 0, 1) := by decide +kernel
theorem dX1_isCommandRead_27 : decode cX1_isCommandRead 27 = .ok (.iload_n 2, 1) := by decide +kernel
theorem dX1_isCommandRead_28 : decode cX1_isCommandRead 28 = .ok (.invokevirtual 56, 3) := by decide +kernel
theorem dX1_isCommandRead_31 : decode cX1_isCommandRead 31 = .ok (.iload_n 2, 1) := by decide +kernel
theorem dX1_isCommandRead_32 : decode cX1_isCommandRead 32 = .ok (.ifCond .lt 19, 3) := by decide +kernel
theorem dX1_isCommandRead_35 : decode cX1_isCommandRead 35 = .ok (.iload_n 2, 1) := by decide +kernel
theorem dX1_isCommandRead_36 : decode cX1_isCommandRead 36 = .ok (.getstatic 60, 3) := by decide +kernel
theorem dX1_isCommandRead_39 : decode cX1_isCommandRead 39 = .ok (.arraylength, 1) := by decide +kernel
theorem dX1_isCommandRead_40 : decode cX1_isCommandRead 40 = .ok (.if_icmp .ge 11, 3) := by decide +kernel
theorem dX1_isCommandRead_43 : decode cX1_isCommandRead 43 = .ok (.getstatic 60, 3) := by decide +kernel
theorem dX1_isCommandRead_46 : decode cX1_isCommandRead 46 = .ok (.iload_n 2, 1) := by decide +kernel
theorem dX1_isCommandRead_47 : decode cX1_isCommandRead 47 = .ok (.iaload, 1) := by decide +kernel
theorem dX1_isCommandRead_48 : decode cX1_isCommandRead 48 = .ok (.goto 4, 3) := by decide +kernel
theorem dX1_isCommandRead_51 : decode cX1_isCommandRead 51 = .ok (.iconst 0, 1) := by decide +kernel
theorem dX1_isCommandRead_52 : decode cX1_isCommandRead 52 = .ok (.istore 4, 2) := by decide +kernel
theorem dX1_isCommandRead_54 : decode cX1_isCommandRead 54 = .ok (.iconst 0, 1) := by decide +kernel
theorem dX1_isCommandRead_55 : decode cX1_isCommandRead 55 = .ok (.istore 5, 2) := by decide +kernel
theorem dX1_isCommandRead_57 : decode cX1_isCommandRead 57 = .ok (.iload 5, 2) := by decide +kernel
theorem dX1_isCommandRead_59 : decode cX1_isCommandRead 59 = .ok (.iload 4, 2) := by decide +kernel
theorem dX1_isCommandRead_61 : decode cX1_isCommandRead 61 = .ok (.if_icmp .ge 52, 3) := by decide +kernel
theorem dX1_isCommandRead_64 : decode cX1_isCommandRead 64 = .ok (.aload_n 0, 1) := by decide +kernel
theorem dX1_isCommandRead_65 : decode cX1_isCommandRead 65 = .ok (.aload_n 1, 1) := by decide +kernel
theorem dX1_isCommandRead_66 : decode cX1_isCommandRead 66 = .ok (.bipush 32, 2) := by decide +kernel
theorem dX1_isCommandRead_68 : decode cX1_isCommandRead 68 = .ok (.invokevirtual 37, 3) := by decide +kernel
theorem dX1_isCommandRead_71 : decode cX1_isCommandRead 71 = .ok (.ifCond .eq 17, 3) := by decide +kernel
theorem dX1_isCommandRead_74 : decode cX1_isCommandRead 74 = .ok (.aload_n 1, 1) := by decide +kernel
theorem dX1_isCommandRead_75 : decode cX1_isCommandRead 75 = .ok (.aload_n 0, 1) := by decide +kernel
theorem dX1_isCommandRead_76 : decode cX1_isCommandRead 76 = .ok (.getfield 20, 3) := by decide +kernel
theorem dX1_isCommandRead_79 : decode cX1_isCommandRead 79 = .ok (.invokestatic 45, 3) := by decide +kernel
theorem dX1_isCommandRead_82 : decode cX1_isCommandRead 82 = .ok (.invokestatic 64, 3) := by decide +kernel
theorem dX1_isCommandRead_85 : decode cX1_isCommandRead 85 = .ok (.ifCond .ne 5, 3) := by decide +kernel
theorem dX1_isCommandRead_88 : decode cX1_isCommandRead 88 = .ok (.iconst 0, 1) := by decide +kernel
theorem dX1_isCommandRead_89 : decode cX1_isCommandRead 89 = .ok (.ireturn, 1) := by decide +kernel
theorem dX1_isCommandRead_90 : decode cX1_isCommandRead 90 = .ok (.aload_n 0, 1) := by decide +kernel
theorem dX1_isCommandRead_91 : decode cX1_isCommandRead 91 = .ok (.getfield 14, 3) := by decide +kernel
theorem dX1_isCommandRead_94 : decode cX1_isCommandRead 94 = .ok (.iload_n 3, 1) := by decide +kernel
theorem dX1_isCommandRead_95 : decode cX1_isCommandRead 95 = .ok (.iconst 1, 1) := by decide +kernel
theorem dX1_isCommandRead_96 : decode cX1_isCommandRead 96 = .ok (.iload 5, 2) := by decide +kernel
theorem dX1_isCommandRead_98 : decode cX1_isCommandRead 98 = .ok (.iadd, 1) := by decide +kernel
theorem dX1_isCommandRead_99 : decode cX1_isCommandRead 99 = .ok (.aload_n 0, 1) := by decide +kernel
theorem dX1_isCommandRead_100 : decode cX1_isCommandRead 100 = .ok (.aload_n 1, 1) := by decide +kernel
theorem dX1_isCommandRead_101 : decode cX1_isCommandRead 101 = .ok (.invokevirtual 68, 3) := by decide +kernel
theorem dX1_isCommandRead_104 : decode cX1_isCommandRead 104 = .ok (.invokevirtual 56, 3) := by decide +kernel
theorem dX1_isCommandRead_107 : decode cX1_isCommandRead 107 = .ok (.iinc 5 1, 3) := by decide +kernel
theorem dX1_isCommandRead_110 : decode cX1_isCommandRead 110 = .ok (.goto (-53), 3) := by decide +kernel
theorem dX1_isCommandRead_113 : decode cX1_isCommandRead 113 = .ok (.iconst 1, 1) := by decide +kernel
theorem dX1_isCommandRead_114 : decode cX1_isCommandRead 114 = .ok (.ireturn, 1) := by decide +kernel
set_option maxRecDepth 20000 in
theorem ggX1_readWord_X1_rightLetters : GoodIn wsX1_readWord wsX1_rightLetters := goodIn_r _ [11, 6, 12, 13, 14, 15, 16, 17, 18, 19, 20, 21, 22, 23, 24, 25, 10, 26, 27, 28, 29, 30, 31, 32, 33, 34, 35, 36, 37, 38, 39, 40, 41, 42, 43, 44, 45, 46, 47, 48, 49, 50, 4, 51, 52, 53, 54, 55, 56, 57, 58, 59, 60, 61, 62, 63, 64, 65, 66, 67, 68, 69, 70, 71, 72, 73, 74, 75, 76, 77, 78, 79, 80, 81, 82, 83, 84, 85, 86, 87, 88, 89, 90, 91, 92, 93, 94, 95, 96, 97, 98, 99, 100] (by decide +kernel) (by decide +kernel)
set_option maxRecDepth 20000 in
theorem gX1_readWord_X1_rightLetters : GoodIn wsX1_readWord (wsV RX1 71 RX1 yX1_rightLetters wsX1_rightLetters) := goodIn_app (goodIn_of _ (by decide +kernel)) ggX1_readWord_X1_rightLetters
theorem dX1_readWord_0 : decode cX1_readWord 0 = .ok (.iconst 0, 1) := by decide +kernel
theorem dX1_readWord_1 : decode cX1_readWord 1 = .ok (.istore_n 2, 1) := by decide +kernel
theorem dX1_readWord_2 : decode cX1_readWord 2 = .ok (.iconst (-1), 1) := by decide +kernel
theorem dX1_readWord_3 : decode cX1_readWord 3 = .ok (.istore_n 3, 1) := by decide +kernel
theorem dX1_readWord_4 : decode cX1_readWord 4 = .ok (.iconst 0, 1) := by decide +kernel
theorem dX1_readWord_5 : decode cX1_readWord 5 = .ok (.istore 4, 2) := by decide +kernel
theorem dX1_readWord_7 : decode cX1_readWord 7 = .ok (.iload 4, 2) := by decide +kernel
theorem dX1_readWord_9 : decode cX1_readWord 9 = .ok (.getstatic 60, 3) := by decide +kernel
theorem dX1_readWord_12 : decode cX1_readWord 12 = .ok (.arraylength, 1) := by decide +kernel
theorem dX1_readWord_13 : decode cX1_readWord 13 = .ok (.if_icmp .ge 34, 3) := by decide +kernel
theorem dX1_readWord_16 : decode cX1_readWord 16 = .ok (.aload_n 0, 1) := by decide +kernel
theorem dX1_readWord_17 : decode cX1_readWord 17 = .ok (.aload_n 1, 1) := by decide +kernel
theorem dX1_readWord_18 : decode cX1_readWord 18 = .ok (.iload 4, 2) := by decide +kernel
theorem dX1_readWord_20 : decode cX1_readWord 20 = .ok (.invokevirtual 71, 3) := by decide +kernel
theorem dX1_readWord_23 : decode cX1_readWord 23 = .ok (.istore 5, 2) := by decide +kernel
theorem dX1_readWord_25 : decode cX1_readWord 25 = .ok (.iload_n 2, 1) := by decide +kernel
theorem dX1_readWord_26 : decode cX1_readWord 26 = .ok (.iload 5, 2) := by decide +kernel
theorem dX1_readWord_28 : decode cX1_readWord 28 = .ok (.invokestatic 74, 3) := by decide +kernel
theorem dX1_readWord_31 : decode cX1_readWord 31 = .ok (.istore_n 2, 1) := by decide +kernel
theorem dX1_readWord_32 : decode cX1_readWord 32 = .ok (.iload 5, 2) := by decide +kernel
theorem dX1_readWord_34 : decode cX1_readWord 34 = .ok (.iconst 4, 1) := by decide +kernel
theorem dX1_readWord_35 : decode cX1_readWord 35 = .ok (.if_icmp .ne 6, 3) := by decide +kernel
theorem dX1_readWord_38 : decode cX1_readWord 38 = .ok (.iload 4, 2) := by decide +kernel
theorem dX1_readWord_40 : decode cX1_readWord 40 = .ok (.istore_n 3, 1) := by decide +kernel
theorem dX1_readWord_41 : decode cX1_readWord 41 = .ok (.iinc 4 1, 3) := by decide +kernel
theorem dX1_readWord_44 : decode cX1_readWord 44 = .ok (.goto (-37), 3) := by decide +kernel
theorem dX1_readWord_47 : decode cX1_readWord 47 = .ok (.aload_n 0, 1) := by decide +kernel
theorem dX1_readWord_48 : decode cX1_readWord 48 = .ok (.dup, 1) := by decide +kernel
theorem dX1_readWord_49 : decode cX1_readWord 49 = .ok (.getfield 20, 3) := by decide +kernel
theorem dX1_readWord_52 : decode cX1_readWord 52 = .ok (.iload_n 2, 1) := by decide +kernel
theorem dX1_readWord_53 : decode cX1_readWord 53 = .ok (.iadd, 1) := by decide +kernel
theorem dX1_readWord_54 : decode cX1_readWord 54 = .ok (.putfield 20, 3) := by decide +kernel
theorem dX1_readWord_57 : decode cX1_readWord 57 = .ok (.iload_n 3, 1) := by decide +kernel
theorem dX1_readWord_58 : decode cX1_readWord 58 = .ok (.ireturn, 1) := by decide +kernel
set_option maxRecDepth 20000 in
theorem ggX1_rightLetters_J0_length_8abf5 : GoodIn wsX1_rightLetters wsJ0_length_8abf5 := goodIn_r _ [6, 7, 8, 9, 10, 5, 11, 12, 13, 85, 86, 87, 88] (by decide +kernel) (by decide +kernel)
set_option maxRecDepth 20000 in
theorem gX1_rightLetters_J0_length_8abf5 : GoodIn wsX1_rightLetters (wsV RX1 82 RJ0 yJ0_length_8abf5 wsJ0_length_8abf5) := goodIn_app (goodIn_of _ (by decide +kernel)) ggX1_rightLetters_J0_length_8abf5
set_option maxRecDepth 20000 in
theorem ggX1_rightLetters_X1_signAt : GoodIn wsX1_rightLetters wsX1_signAt := goodIn_r _ [17, 18, 19, 20, 21, 22, 23, 24, 25, 26, 27, 28, 29, 30, 31, 32, 33, 34, 35, 36, 37, 38, 39, 40, 41, 42, 43, 44, 45, 5, 46, 47, 48, 49, 50, 51, 52, 53, 54, 55, 56, 57, 58, 59, 60, 61, 89, 90, 91, 92] (by decide +kernel) (by decide +kernel)
set_option maxRecDepth 20000 in
theorem gX1_rightLetters_X1_signAt : GoodIn wsX1_rightLetters (va_wsS RX1 45 yX1_signAt wsX1_signAt) := goodIn_app (goodIn_of _ (by decide +kernel)) ggX1_rightLetters_X1_signAt
set_option maxRecDepth 20000 in
theorem ggX1_rightLetters_J0_charAt_5068e : GoodIn wsX1_rightLetters wsJ0_charAt_5068e := goodIn_r _ [65, 7, 66, 67, 68, 5, 69, 12, 13, 70, 71, 72, 73, 74, 45, 46, 47, 48, 49, 50, 51, 75, 76, 54, 77, 78, 79, 80, 59, 60, 61, 81, 82, 53, 55, 56, 57, 58, 85, 86, 87, 88] (by decide +kernel) (by decide +kernel)
set_option maxRecDepth 20000 in
theorem gX1_rightLetters_J0_charAt_5068e : GoodIn wsX1_rightLetters (wsV RX1 85 RJ0 yJ0_charAt_5068e wsJ0_charAt_5068e) := goodIn_app (goodIn_of _ (by decide +kernel)) ggX1_rightLetters_J0_charAt_5068e
theorem dX1_rightLetters_0 : decode cX1_rightLetters 0 = .ok (.iconst 0, 1) := by decide +kernel
theorem dX1_rightLetters_1 : decode cX1_rightLetters 1 = .ok (.istore_n 3, 1) := by decide +kernel
theorem dX1_rightLetters_2 : decode cX1_rightLetters 2 = .ok (.iload_n 3, 1) := by decide +kernel
theorem dX1_rightLetters_3 : decode cX1_rightLetters 3 = .ok (.iconst 4, 1) := by decide +kernel
theorem dX1_rightLetters_4 : decode cX1_rightLetters 4 = .ok (.if_icmp .ge 65, 3) := by decide +kernel
theorem dX1_rightLetters_7 : decode cX1_rightLetters 7 = .ok (.iload_n 2, 1) := by decide +kernel
theorem dX1_rightLetters_8 : decode cX1_rightLetters 8 = .ok (.iconst 4, 1) := by decide +kernel
theorem dX1_rightLetters_9 : decode cX1_rightLetters 9 = .ok (.imul, 1) := by decide +kernel
theorem dX1_rightLetters_10 : decode cX1_rightLetters 10 = .ok (.iload_n 3, 1) := by decide +kernel
theorem dX1_rightLetters_11 : decode cX1_rightLetters 11 = .ok (.iadd, 1) := by decide +kernel
theorem dX1_rightLetters_12 : decode cX1_rightLetters 12 = .ok (.istore 4, 2) := by decide +kernel
theorem dX1_rightLetters_14 : decode cX1_rightLetters 14 = .ok (.iload 4, 2) := by decide +kernel
theorem dX1_rightLetters_16 : decode cX1_rightLetters 16 = .ok (.ifCond .lt 37, 3) := by decide +kernel
theorem dX1_rightLetters_19 : decode cX1_rightLetters 19 = .ok (.iload 4, 2) := by decide +kernel
theorem dX1_rightLetters_21 : decode cX1_rightLetters 21 = .ok (.ldc 80, 2) := by decide +kernel
theorem dX1_rightLetters_23 : decode cX1_rightLetters 23 = .ok (.invokevirtual 82, 3) := by decide +kernel
theorem dX1_rightLetters_26 : decode cX1_rightLetters 26 = .ok (.if_icmp .ge 27, 3) := by decide +kernel
theorem dX1_rightLetters_29 : decode cX1_rightLetters 29 = .ok (.aload_n 1, 1) := by decide +kernel
theorem dX1_rightLetters_30 : decode cX1_rightLetters 30 = .ok (.aload_n 0, 1) := by decide +kernel
theorem dX1_rightLetters_31 : decode cX1_rightLetters 31 = .ok (.getfield 20, 3) := by decide +kernel
theorem dX1_rightLetters_34 : decode cX1_rightLetters 34 = .ok (.iload_n 3, 1) := by decide +kernel
theorem dX1_rightLetters_35 : decode cX1_rightLetters 35 = .ok (.iadd, 1) := by decide +kernel
theorem dX1_rightLetters_36 : decode cX1_rightLetters 36 = .ok (.invokestatic 45, 3) := by decide +kernel
theorem dX1_rightLetters_39 : decode cX1_rightLetters 39 = .ok (.ldc 80, 2) := by decide +kernel
theorem dX1_rightLetters_41 : decode cX1_rightLetters 41 = .ok (.iload 4, 2) := by decide +kernel
theorem dX1_rightLetters_43 : decode cX1_rightLetters 43 = .ok (.invokevirtual 85, 3) := by decide +kernel
theorem dX1_rightLetters_46 : decode cX1_rightLetters 46 = .ok (.if_icmp .ne 7, 3) := by decide +kernel
theorem dX1_rightLetters_49 : decode cX1_rightLetters 49 = .ok (.iconst 1, 1) := by decide +kernel
