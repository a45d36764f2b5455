theorem dX6_fits_7 : decode cX6_fits 7 = .ok (.iaload, 1) := by decide +kernel
theorem dX6_fits_8 : decode cX6_fits 8 = .ok (.iconst 1, 1) := by decide +kernel
theorem dX6_fits_9 : decode cX6_fits 9 = .ok (.isub, 1) := by decide +kernel
theorem dX6_fits_10 : decode cX6_fits 10 = .ok (.invokestatic 64, 3) := by decide +kernel
theorem dX6_fits_13 : decode cX6_fits 13 = .ok (.ifCond .eq 11, 3) := by decide +kernel
theorem dX6_fits_16 : decode cX6_fits 16 = .ok (.aload_n 0, 1) := by decide +kernel
theorem dX6_fits_17 : decode cX6_fits 17 = .ok (.iload_n 2, 1) := by decide +kernel
theorem dX6_fits_18 : decode cX6_fits 18 = .ok (.invokevirtual 78, 3) := by decide +kernel
theorem dX6_fits_21 : decode cX6_fits 21 = .ok (.ifCond .ne 17, 3) := by decide +kernel
theorem dX6_fits_24 : decode cX6_fits 24 = .ok (.aload_n 0, 1) := by decide +kernel
theorem dX6_fits_25 : decode cX6_fits 25 = .ok (.iconst 1, 1) := by decide +kernel
theorem dX6_fits_26 : decode cX6_fits 26 = .ok (.invokevirtual 45, 3) := by decide +kernel
theorem dX6_fits_29 : decode cX6_fits 29 = .ok (.ifCond .le 7, 3) := by decide +kernel
theorem dX6_fits_32 : decode cX6_fits 32 = .ok (.iconst 1, 1) := by decide +kernel
theorem dX6_fits_33 : decode cX6_fits 33 = .ok (.goto 4, 3) := by decide +kernel
theorem dX6_fits_36 : decode cX6_fits 36 = .ok (.iconst 0, 1) := by decide +kernel
theorem dX6_fits_37 : decode cX6_fits 37 = .ok (.ireturn, 1) := by decide +kernel
theorem dX6_fits_38 : decode cX6_fits 38 = .ok (.iload_n 3, 1) := by decide +kernel
theorem dX6_fits_39 : decode cX6_fits 39 = .ok (.invokestatic 74, 3) := by decide +kernel
theorem dX6_fits_42 : decode cX6_fits 42 = .ok (.ifCond .ne 17, 3) := by decide +kernel
theorem dX6_fits_45 : decode cX6_fits 45 = .ok (.aload_n 0, 1) := by decide +kernel
theorem dX6_fits_46 : decode cX6_fits 46 = .ok (.iconst 2, 1) := by decide +kernel
theorem dX6_fits_47 : decode cX6_fits 47 = .ok (.invokevirtual 45, 3) := by decide +kernel
theorem dX6_fits_50 : decode cX6_fits 50 = .ok (.ifCond .le 7, 3) := by decide +kernel
theorem dX6_fits_53 : decode cX6_fits 53 = .ok (.iconst 1, 1) := by decide +kernel
theorem dX6_fits_54 : decode cX6_fits 54 = .ok (.goto 4, 3) := by decide +kernel
theorem dX6_fits_57 : decode cX6_fits 57 = .ok (.iconst 0, 1) := by decide +kernel
theorem dX6_fits_58 : decode cX6_fits 58 = .ok (.ireturn, 1) := by decide +kernel
theorem dX6_fits_59 : decode cX6_fits 59 = .ok (.aload_n 0, 1) := by decide +kernel
theorem dX6_fits_60 : decode cX6_fits 60 = .ok (.iconst 0, 1) := by decide +kernel
theorem dX6_fits_61 : decode cX6_fits 61 = .ok (.putfield 36, 3) := by decide +kernel
theorem dX6_fits_64 : decode cX6_fits 64 = .ok (.aload_n 0, 1) := by decide +kernel
theorem dX6_fits_65 : decode cX6_fits 65 = .ok (.iload_n 1, 1) := by decide +kernel
theorem dX6_fits_66 : decode cX6_fits 66 = .ok (.iload_n 2, 1) := by decide +kernel
theorem dX6_fits_67 : decode cX6_fits 67 = .ok (.iload_n 3, 1) := by decide +kernel
theorem dX6_fits_68 : decode cX6_fits 68 = .ok (.invokevirtual 116, 3) := by decide +kernel
theorem dX6_fits_71 : decode cX6_fits 71 = .ok (.ireturn, 1) := by decide +kernel
set_option maxRecDepth 20000 in
theorem ggX6_lengthOf_X6_trailerAt : GoodIn wsX6_lengthOf wsX6_trailerAt := goodIn_ca (goodIn_r _ [6, 1, 7, 8, 9, 10, 11, 12, 13, 14, 15, 16, 17, 18, 19, 20, 21, 22, 23, 24, 25, 26, 27, 28, 29, 30, 31, 32, 33] (by decide +kernel) (by decide +kernel)) (goodIn_sub (fun _ h => List.mem_cons_of_mem _ (List.mem_append_right _ h)) (by decide +kernel))
set_option maxRecDepth 20000 in
theorem gX6_lengthOf_X6_trailerAt : GoodIn wsX6_lengthOf (wsV RX6 113 RX6 yX6_trailerAt wsX6_trailerAt) := goodIn_app (goodIn_of _ (by decide +kernel)) ggX6_lengthOf_X6_trailerAt
theorem dX6_lengthOf_0 : decode cX6_lengthOf 0 = .ok (.iconst 0, 1) := by decide +kernel
theorem dX6_lengthOf_1 : decode cX6_lengthOf 1 = .ok (.istore_n 2, 1) := by decide +kernel
theorem dX6_lengthOf_2 : decode cX6_lengthOf 2 = .ok (.iconst 0, 1) := by decide +kernel
theorem dX6_lengthOf_3 : decode cX6_lengthOf 3 = .ok (.istore_n 3, 1) := by decide +kernel
theorem dX6_lengthOf_4 : decode cX6_lengthOf 4 = .ok (.iload_n 3, 1) := by decide +kernel
theorem dX6_lengthOf_5 : decode cX6_lengthOf 5 = .ok (.aload_n 0, 1) := by decide +kernel
theorem dX6_lengthOf_6 : decode cX6_lengthOf 6 = .ok (.getfield 9, 3) := by decide +kernel
theorem dX6_lengthOf_9 : decode cX6_lengthOf 9 = .ok (.iconst 3, 1) := by decide +kernel
theorem dX6_lengthOf_10 : decode cX6_lengthOf 10 = .ok (.iaload, 1) := by decide +kernel
theorem dX6_lengthOf_11 : decode cX6_lengthOf 11 = .ok (.if_icmp .ge 31, 3) := by decide +kernel
theorem dX6_lengthOf_14 : decode cX6_lengthOf 14 = .ok (.iload_n 2, 1) := by decide +kernel
theorem dX6_lengthOf_15 : decode cX6_lengthOf 15 = .ok (.iload_n 1, 1) := by decide +kernel
theorem dX6_lengthOf_16 : decode cX6_lengthOf 16 = .ok (.iload_n 3, 1) := by decide +kernel
theorem dX6_lengthOf_17 : decode cX6_lengthOf 17 = .ok (.ishr, 1) := by decide +kernel
theorem dX6_lengthOf_18 : decode cX6_lengthOf 18 = .ok (.iconst 1, 1) := by decide +kernel
theorem dX6_lengthOf_19 : decode cX6_lengthOf 19 = .ok (.iand, 1) := by decide +kernel
theorem dX6_lengthOf_20 : decode cX6_lengthOf 20 = .ok (.iconst 1, 1) := by decide +kernel
theorem dX6_lengthOf_21 : decode cX6_lengthOf 21 = .ok (.if_icmp .ne 12, 3) := by decide +kernel
theorem dX6_lengthOf_24 : decode cX6_lengthOf 24 = .ok (.aload_n 0, 1) := by decide +kernel
theorem dX6_lengthOf_25 : decode cX6_lengthOf 25 = .ok (.iload_n 3, 1) := by decide +kernel
theorem dX6_lengthOf_26 : decode cX6_lengthOf 26 = .ok (.iconst 1, 1) := by decide +kernel
theorem dX6_lengthOf_27 : decode cX6_lengthOf 27 = .ok (.invokevirtual 113, 3) := by decide +kernel
theorem dX6_lengthOf_30 : decode cX6_lengthOf 30 = .ok (.goto 4, 3) := by decide +kernel
theorem dX6_lengthOf_33 : decode cX6_lengthOf 33 = .ok (.iconst 0, 1) := by decide +kernel
theorem dX6_lengthOf_34 : decode cX6_lengthOf 34 = .ok (.iadd, 1) := by decide +kernel
theorem dX6_lengthOf_35 : decode cX6_lengthOf 35 = .ok (.istore_n 2, 1) := by decide +kernel
theorem dX6_lengthOf_36 : decode cX6_lengthOf 36 = .ok (.iinc 3 1, 3) := by decide +kernel
theorem dX6_lengthOf_39 : decode cX6_lengthOf 39 = .ok (.goto (-35), 3) := by decide +kernel
theorem dX6_lengthOf_42 : decode cX6_lengthOf 42 = .ok (.iload_n 2, 1) := by decide +kernel
theorem dX6_lengthOf_43 : decode cX6_lengthOf 43 = .ok (.ireturn, 1) := by decide +kernel
set_option maxRecDepth 20000 in
theorem ggX6_isBetter_X6_lengthOf : GoodIn wsX6_isBetter wsX6_lengthOf := goodIn_ca (goodIn_r _ [5, 6, 7, 8, 9, 4, 10, 18, 19, 20, 21, 22, 23, 24, 25, 26, 27, 28, 29, 30, 31, 32, 33, 34, 35, 36, 37, 38, 39, 40, 41, 42, 43, 44] (by decide +kernel) (by decide +kernel)) (goodIn_sub (fun _ h => List.mem_cons_of_mem _ (List.mem_append_right _ h)) (by decide +kernel))
set_option maxRecDepth 20000 in
theorem gX6_isBetter_X6_lengthOf : GoodIn wsX6_isBetter (wsV RX6 119 RX6 yX6_lengthOf wsX6_lengthOf) := goodIn_app (goodIn_of _ (by decide +kernel)) ggX6_isBetter_X6_lengthOf
set_option maxRecDepth 20000 in
theorem ggX6_isBetter_J6_bitCount_0f7a4 : GoodIn wsX6_isBetter wsJ6_bitCount_0f7a4 := goodIn_r _ [14, 15, 16, 17] (by decide +kernel) (by decide +kernel)
set_option maxRecDepth 20000 in
theorem gX6_isBetter_J6_bitCount_0f7a4 : GoodIn wsX6_isBetter (va_wsS RX6 122 yJ6_bitCount_0f7a4 wsJ6_bitCount_0f7a4) := goodIn_app (goodIn_of _ (by decide +kernel)) ggX6_isBetter_J6_bitCount_0f7a4
theorem dX6_isBetter_0 : decode cX6_isBetter 0 = .ok (.aload_n 0, 1) := by decide +kernel
theorem dX6_isBetter_1 : decode cX6_isBetter 1 = .ok (.iload_n 1, 1) := by decide +kernel
theorem dX6_isBetter_2 : decode cX6_isBetter 2 = .ok (.invokevirtual 119, 3) := by decide +kernel
theorem dX6_isBetter_5 : decode cX6_isBetter 5 = .ok (.aload_n 0, 1) := by decide +kernel
theorem dX6_isBetter_6 : decode cX6_isBetter 6 = .ok (.iload_n 2, 1) := by decide +kernel
theorem dX6_isBetter_7 : decode cX6_isBetter 7 = .ok (.invokevirtual 119, 3) := by decide +kernel
theorem dX6_isBetter_10 : decode cX6_isBetter 10 = .ok (.if_icmp .eq 22, 3) := by decide +kernel
theorem dX6_isBetter_13 : decode cX6_isBetter 13 = .ok (.aload_n 0, 1) := by decide +kernel
theorem dX6_isBetter_14 : decode cX6_isBetter 14 = .ok (.iload_n 1, 1) := by decide +kernel
theorem dX6_isBetter_15 : decode cX6_isBetter 15 = .ok (.invokevirtual 119, 3) := by decide +kernel
theorem dX6_isBetter_18 : decode cX6_isBetter 18 = .ok (.aload_n 0, 1) := by decide +kernel
theorem dX6_isBetter_19 : decode cX6_isBetter 19 = .ok (.iload_n 2, 1) := by decide +kernel
theorem dX6_isBetter_20 : decode cX6_isBetter 20 = .ok (.invokevirtual 119, 3) := by decide +kernel
theorem dX6_isBetter_23 : decode cX6_isBetter 23 = .ok (.if_icmp .le 7, 3) := by decide +kernel
theorem dX6_isBetter_26 : decode cX6_isBetter 26 = .ok (.iconst 1, 1) := by decide +kernel
theorem dX6_isBetter_27 : decode cX6_isBetter 27 = .ok (.goto 4, 3) := by decide +kernel
theorem dX6_isBetter_30 : decode cX6_isBetter 30 = .ok (.iconst 0, 1) := by decide +kernel
theorem dX6_isBetter_31 : decode cX6_isBetter 31 = .ok (.ireturn, 1) := by decide +kernel
theorem dX6_isBetter_32 : decode cX6_isBetter 32 = .ok (.iload_n 1, 1) := by decide +kernel
theorem dX6_isBetter_33 : decode cX6_isBetter 33 = .ok (.invokestatic 122, 3) := by decide +kernel
theorem dX6_isBetter_36 : decode cX6_isBetter 36 = .ok (.istore_n 3, 1) := by decide +kernel
theorem dX6_isBetter_37 : decode cX6_isBetter 37 = .ok (.iload_n 2, 1) := by decide +kernel
theorem dX6_isBetter_38 : decode cX6_isBetter 38 = .ok (.invokestatic 122, 3) := by decide +kernel
theorem dX6_isBetter_41 : decode cX6_isBetter 41 = .ok (.istore 4, 2) := by decide +kernel
theorem dX6_isBetter_43 : decode cX6_isBetter 43 = .ok (.iload_n 1, 1) := by decide +kernel
theorem dX6_isBetter_44 : decode cX6_isBetter 44 = .ok (.iload_n 2, 1) := by decide +kernel
theorem dX6_isBetter_45 : decode cX6_isBetter 45 = .ok (.ixor, 1) := by decide +kernel
theorem dX6_isBetter_46 : decode cX6_isBetter 46 = .ok (.istore 5, 2) := by decide +kernel
theorem dX6_isBetter_48 : decode cX6_isBetter 48 = .ok (.iload_n 3, 1) := by decide +kernel
theorem dX6_isBetter_49 : decode cX6_isBetter 49 = .ok (.iload 4, 2) := by decide +kernel
theorem dX6_isBetter_51 : decode cX6_isBetter 51 = .ok (.if_icmp .eq 17, 3) := by decide +kernel
theorem dX6_isBetter_54 : decode cX6_isBetter 54 = .ok (.iload_n 3, 1) := by decide +kernel
theorem dX6_isBetter_55 : decode cX6_isBetter 55 = .ok (.iload 4, 2) := by decide +kernel
theorem dX6_isBetter_57 : decode cX6_isBetter 57 = .ok (.if_icmp .ge 7, 3) := by decide +kernel
theorem dX6_isBetter_60 : decode cX6_isBetter 60 = .ok (.iconst 1, 1) := by decide +kernel
theorem dX6_isBetter_61 : decode cX6_isBetter 61 = .ok (.goto 23, 3) := by decide +kernel
theorem dX6_isBetter_64 : decode cX6_isBetter 64 = .ok (.iconst 0, 1) := by decide +kernel
theorem dX6_isBetter_65 : decode cX6_isBetter 65 = .ok (.goto 19, 3) := by decide +kernel
theorem dX6_isBetter_68 : decode cX6_isBetter 68 = .ok (.iload_n 1, 1) := by decide +kernel
theorem dX6_isBetter_69 : decode cX6_isBetter 69 = .ok (.iload 5, 2) := by decide +kernel
theorem dX6_isBetter_71 : decode cX6_isBetter 71 = .ok (.iand, 1) := by decide +kernel
theorem dX6_isBetter_72 : decode cX6_isBetter 72 = .ok (.iload 5, 2) := by decide +kernel
theorem dX6_isBetter_74 : decode cX6_isBetter 74 = .ok (.ineg, 1) := by decide +kernel
theorem dX6_isBetter_75 : decode cX6_isBetter 75 = .ok (.iand, 1) := by decide +kernel
theorem dX6_isBetter_76 : decode cX6_isBetter 76 = .ok (.ifCond .eq 7, 3) := by decide +kernel
theorem dX6_isBetter_79 : decode cX6_isBetter 79 = .ok (.iconst 1, 1) := by decide +kernel
theorem dX6_isBetter_80 : decode cX6_isBetter 80 = .ok (.goto 4, 3) := by decide +kernel
theorem dX6_isBetter_83 : decode cX6_isBetter 83 = .ok (.iconst 0, 1) := by decide +kernel
theorem dX6_isBetter_84 : decode cX6_isBetter 84 = .ok (.ireturn, 1) := by decide +kernel
set_option maxRecDepth 20000 in
theorem ggX6_bestReel_X6_doesFit : GoodIn wsX6_bestReel wsX6_doesFit := goodIn_ca (goodIn_r _ [6, 7, 8, 9, 5, 10, 1, 11, 12, 13, 14, 30, 31, 32, 33, 34, 35, 36, 37, 38, 39, 40, 41, 42, 43, 44, 45, 46, 47, 48, 49, 50, 51, 52, 53, 54, 55, 56] (by decide +kernel) (by decide +kernel)) (goodIn_sub (fun _ h => List.mem_cons_of_mem _ (List.mem_append_right _ h)) (by decide +kernel))
set_option maxRecDepth 20000 in
theorem gX6_bestReel_X6_doesFit : GoodIn wsX6_bestReel (wsV RX6 116 RX6 yX6_doesFit wsX6_doesFit) := goodIn_app (goodIn_of _ (by decide +kernel)) ggX6_bestReel_X6_doesFit
set_option maxRecDepth 20000 in
theorem ggX6_bestReel_J6_bitCount_0f7a4 : GoodIn wsX6_bestReel wsJ6_bitCount_0f7a4 := goodIn_r _ [18, 19, 20, 21] (by decide +kernel) (by decide +kernel)
set_option maxRecDepth 20000 in
theorem gX6_bestReel_J6_bitCount_0f7a4 : GoodIn wsX6_bestReel (va_wsS RX6 122 yJ6_bitCount_0f7a4 wsJ6_bitCount_0f7a4) := goodIn_app (goodIn_of _ (by decide +kernel)) ggX6_bestReel_J6_bitCount_0f7a4
set_option maxRecDepth 20000 in
theorem ggX6_bestReel_X6_lengthOf : GoodIn wsX6_bestReel wsX6_lengthOf := goodIn_ca (goodIn_r _ [25, 1, 7, 8, 9, 5, 10, 30, 31, 32, 33, 34, 35, 36, 37, 38, 39, 40, 41, 42, 43, 44, 45, 46, 47, 48, 49, 50, 51, 52, 53, 54, 55, 56] (by decide +kernel) (by decide +kernel)) (goodIn_sub (fun _ h => List.mem_cons_of_mem _ (List.mem_append_right _ h)) (by decide +kernel))
set_option maxRecDepth 20000 in
theorem gX6_bestReel_X6_lengthOf : GoodIn wsX6_bestReel (wsV RX6 119 RX6 yX6_lengthOf wsX6_lengthOf) := goodIn_app (goodIn_of _ (by decide +kernel)) ggX6_bestReel_X6_lengthOf
set_option maxRecDepth 20000 in
theorem ggX6_bestReel_X6_isBetter : GoodIn wsX6_bestReel wsX6_isBetter := goodIn_ca (goodIn_r _ [29, 22, 23, 24, 5, 25, 1, 7, 8, 9, 10, 15, 16, 17, 18, 19, 20, 21, 30, 31, 32, 33, 34, 35, 36, 37, 38, 39, 40, 41, 42, 43, 44, 45, 46, 47, 48, 49, 50, 51, 52, 53, 54, 55, 56] (by decide +kernel) (by decide +kernel)) (goodIn_sub (fun _ h => List.mem_cons_of_mem _ (List.mem_append_right _ h)) (by decide +kernel))
set_option maxRecDepth 20000 in
theorem gX6_bestReel_X6_isBetter : GoodIn wsX6_bestReel (wsV RX6 127 RX6 yX6_isBetter wsX6_isBetter) := goodIn_app (goodIn_of _ (by decide +kernel)) ggX6_bestReel_X6_isBetter
theorem dX6_bestReel_0 : decode cX6_bestReel 0 = .ok (.iconst 0, 1) := by decide +kernel
theorem dX6_bestReel_1 : decode cX6_bestReel 1 = .ok (.istore_n 3, 1) := by decide +kernel
theorem dX6_bestReel_2 : decode cX6_bestReel 2 = .ok (.iconst 0, 1) := by decide +kernel
theorem dX6_bestReel_3 : decode cX6_bestReel 3 = .ok (.istore 4, 2) := by decide +kernel
theorem dX6_bestReel_5 : decode cX6_bestReel 5 = .ok (.iload 4, 2) := by decide +kernel
theorem dX6_bestReel_7 : decode cX6_bestReel 7 = .ok (.aload_n 0, 1) := by decide +kernel
theorem dX6_bestReel_8 : decode cX6_bestReel 8 = .ok (.getfield 9, 3) := by decide +kernel
theorem dX6_bestReel_11 : decode cX6_bestReel 11 = .ok (.iconst 3, 1) := by decide +kernel
theorem dX6_bestReel_12 : decode cX6_bestReel 12 = .ok (.iaload, 1) := by decide +kernel
theorem dX6_bestReel_13 : decode cX6_bestReel 13 = .ok (.if_icmp .ge 31, 3) := by decide +kernel
theorem dX6_bestReel_16 : decode cX6_bestReel 16 = .ok (.iload_n 3, 1) := by decide +kernel
theorem dX6_bestReel_17 : decode cX6_bestReel 17 = .ok (.aload_n 0, 1) := by decide +kernel
theorem dX6_bestReel_18 : decode cX6_bestReel 18 = .ok (.iload 4, 2) := by decide +kernel
theorem dX6_bestReel_20 : decode cX6_bestReel 20 = .ok (.iload_n 1, 1) := by decide +kernel
theorem dX6_bestReel_21 : decode cX6_bestReel 21 = .ok (.iload_n 2, 1) := by decide +kernel
theorem dX6_bestReel_22 : decode cX6_bestReel 22 = .ok (.invokevirtual 116, 3) := by decide +kernel
theorem dX6_bestReel_25 : decode cX6_bestReel 25 = .ok (.ifCond .eq 10, 3) := by decide +kernel
theorem dX6_bestReel_28 : decode cX6_bestReel 28 = .ok (.iconst 1, 1) := by decide +kernel
theorem dX6_bestReel_29 : decode cX6_bestReel 29 = .ok (.iload 4, 2) := by decide +kernel
theorem dX6_bestReel_31 : decode cX6_bestReel 31 = .ok (.ishl, 1) := by decide +kernel
theorem dX6_bestReel_32 : decode cX6_bestReel 32 = .ok (.goto 4, 3) := by decide +kernel
theorem dX6_bestReel_35 : decode cX6_bestReel 35 = .ok (.iconst 0, 1) := by decide +kernel
theorem dX6_bestReel_36 : decode cX6_bestReel 36 = .ok (.ior, 1) := by decide +kernel
theorem dX6_bestReel_37 : decode cX6_bestReel 37 = .ok (.istore_n 3, 1) := by decide +kernel
theorem dX6_bestReel_38 : decode cX6_bestReel 38 = .ok (.iinc 4 1, 3) := by decide +kernel
theorem dX6_bestReel_41 : decode cX6_bestReel 41 = .ok (.goto (-36), 3) := by decide +kernel
theorem dX6_bestReel_44 : decode cX6_bestReel 44 = .ok (.iconst 0, 1) := by decide +kernel
theorem dX6_bestReel_45 : decode cX6_bestReel 45 = .ok (.istore 4, 2) := by decide +kernel
theorem dX6_bestReel_47 : decode cX6_bestReel 47 = .ok (.iconst 1, 1) := by decide +kernel
theorem dX6_bestReel_48 : decode cX6_bestReel 48 = .ok (.istore 5, 2) := by decide +kernel
theorem dX6_bestReel_50 : decode cX6_bestReel 50 = .ok (.iload 5, 2) := by decide +kernel
theorem dX6_bestReel_52 : decode cX6_bestReel 52 = .ok (.iconst 1, 1) := by decide +kernel
theorem dX6_bestReel_53 : decode cX6_bestReel 53 = .ok (.aload_n 0, 1) := by decide +kernel
theorem dX6_bestReel_54 : decode cX6_bestReel 54 = .ok (.getfield 9, 3) := by decide +kernel
theorem dX6_bestReel_57 : decode cX6_bestReel 57 = .ok (.iconst 3, 1) := by decide +kernel
theorem dX6_bestReel_58 : decode cX6_bestReel 58 = .ok (.iaload, 1) := by decide +kernel
theorem dX6_bestReel_59 : decode cX6_bestReel 59 = .ok (.ishl, 1) := by decide +kernel
theorem dX6_bestReel_60 : decode cX6_bestReel 60 = .ok (.if_icmp .ge 58, 3) := by decide +kernel
theorem dX6_bestReel_63 : decode cX6_bestReel 63 = .ok (.iload 5, 2) := by decide +kernel
theorem dX6_bestReel_65 : decode cX6_bestReel 65 = .ok (.iload_n 3, 1) := by decide +kernel
theorem dX6_bestReel_66 : decode cX6_bestReel 66 = .ok (.iconst (-1), 1) := by decide +kernel
theorem dX6_bestReel_67 : decode cX6_bestReel 67 = .ok (.ixor, 1) := by decide +kernel
theorem dX6_bestReel_68 : decode cX6_bestReel 68 = .ok (.iand, 1) := by decide +kernel
theorem dX6_bestReel_69 : decode cX6_bestReel 69 = .ok (.ifCond .ne 43, 3) := by decide +kernel
theorem dX6_bestReel_72 : decode cX6_bestReel 72 = .ok (.iload 5, 2) := by decide +kernel
theorem dX6_bestReel_74 : decode cX6_bestReel 74 = .ok (.invokestatic 122, 3) := by decide +kernel
theorem dX6_bestReel_77 : decode cX6_bestReel 77 = .ok (.iconst 4, 1) := by decide +kernel
theorem dX6_bestReel_78 : decode cX6_bestReel 78 = .ok (.if_icmp .gt 34, 3) := by decide +kernel
theorem dX6_bestReel_81 : decode cX6_bestReel 81 = .ok (.aload_n 0, 1) := by decide +kernel
theorem dX6_bestReel_82 : decode cX6_bestReel 82 = .ok (.iload 5, 2) := by decide +kernel
theorem dX6_bestReel_84 : decode cX6_bestReel 84 = .ok (.invokevirtual 119, 3) := by decide +kernel
theorem dX6_bestReel_87 : decode cX6_bestReel 87 = .ok (.aload_n 0, 1) := by decide +kernel
theorem dX6_bestReel_88 : decode cX6_bestReel 88 = .ok (.getfield 9, 3) := by decide +kernel
theorem dX6_bestReel_91 : decode cX6_bestReel 91 = .ok (.bipush 11, 2) := by decide +kernel
theorem dX6_bestReel_93 : decode cX6_bestReel 93 = .ok (.iaload, 1) := by decide +kernel
theorem dX6_bestReel_94 : decode cX6_bestReel 94 = .ok (.if_icmp .gt 18, 3) := by decide +kernel
theorem dX6_bestReel_97 : decode cX6_bestReel 97 = .ok (.aload_n 0, 1) := by decide +kernel
theorem dX6_bestReel_98 : decode cX6_bestReel 98 = .ok (.iload 5, 2) := by decide +kernel
theorem dX6_bestReel_100 : decode cX6_bestReel 100 = .ok (.iload 4, 2) := by decide +kernel
theorem dX6_bestReel_102 : decode cX6_bestReel 102 = .ok (.invokevirtual 127, 3) := by decide +kernel
theorem dX6_bestReel_105 : decode cX6_bestReel 105 = .ok (.ifCond .eq 7, 3) := by decide +kernel
theorem dX6_bestReel_108 : decode cX6_bestReel 108 = .ok (.iload 5, 2) := by decide +kernel
theorem dX6_bestReel_110 : decode cX6_bestReel 110 = .ok (.istore 4, 2) := by decide +kernel
theorem dX6_bestReel_112 : decode cX6_bestReel 112 = .ok (.iinc 5 1, 3) := by decide +kernel
theorem dX6_bestReel_115 : decode cX6_bestReel 115 = .ok (.goto (-65), 3) := by decide +kernel
theorem dX6_bestReel_118 : decode cX6_bestReel 118 = .ok (.iload 4, 2) := by decide +kernel
theorem dX6_bestReel_120 : decode cX6_bestReel 120 = .ok (.ireturn, 1) := by decide +kernel
set_option maxRecDepth 20000 in
theorem ggX6_reel_X6_isFilm : GoodIn wsX6_reel wsX6_isFilm := goodIn_ca (goodIn_r _ [5, 6, 7, 8, 4, 9, 53, 54, 55, 56, 57, 58, 59, 60, 61, 62, 63, 64, 65, 66, 67, 68, 69, 70, 71, 72, 73, 74, 75, 76, 77, 78, 79] (by decide +kernel) (by decide +kernel)) (goodIn_sub (fun _ h => List.mem_cons_of_mem _ (List.mem_append_right _ h)) (by decide +kernel))
set_option maxRecDepth 20000 in
theorem gX6_reel_X6_isFilm : GoodIn wsX6_reel (wsV RX6 78 RX6 yX6_isFilm wsX6_isFilm) := goodIn_app (goodIn_of _ (by decide +kernel)) ggX6_reel_X6_isFilm
set_option maxRecDepth 20000 in
theorem ggX6_reel_X6_fails : GoodIn wsX6_reel wsX6_fails := goodIn_r _ [13, 14, 53, 54, 55, 56, 57, 58, 59, 60, 61, 62, 63, 64, 65, 66, 67, 68, 69, 70, 71, 72, 73, 74, 75, 76, 77, 78, 79] (by decide +kernel) (by decide +kernel)
set_option maxRecDepth 20000 in
theorem gX6_reel_X6_fails : GoodIn wsX6_reel (wsV RX6 45 RX6 yX6_fails wsX6_fails) := goodIn_app (goodIn_of _ (by decide +kernel)) ggX6_reel_X6_fails
set_option maxRecDepth 20000 in
theorem ggX6_reel_X6_isDay : GoodIn wsX6_reel wsX6_isDay := goodIn_r _ [17, 7, 8, 4, 9] (by decide +kernel) (by decide +kernel)
set_option maxRecDepth 20000 in
theorem gX6_reel_X6_isDay : GoodIn wsX6_reel (va_wsS RX6 74 yX6_isDay wsX6_isDay) := goodIn_app (goodIn_of _ (by decide +kernel)) ggX6_reel_X6_isDay
set_option maxRecDepth 20000 in
theorem ggX6_reel_X6_bestReel : GoodIn wsX6_reel wsX6_bestReel := goodIn_ca (goodIn_r _ [21, 6, 22, 23, 24, 4, 25, 26, 27, 28, 29, 30, 31, 32, 33, 34, 35, 36, 37, 38, 39, 40, 41, 42, 43, 44, 45, 46, 47, 48, 53, 54, 55, 56, 57, 58, 59, 60, 61, 62, 63, 64, 65, 66, 67, 68, 69, 70, 71, 72, 73, 74, 75, 76, 77, 78, 79] (by decide +kernel) (by decide +kernel)) (goodIn_sub (fun _ h => List.mem_cons_of_mem _ (List.mem_append_right _ h)) (by decide +kernel))
set_option maxRecDepth 20000 in
theorem gX6_reel_X6_bestReel : GoodIn wsX6_reel (wsV RX6 130 RX6 yX6_bestReel wsX6_bestReel) := goodIn_app (goodIn_of _ (by decide +kernel)) ggX6_reel_X6_bestReel
set_option maxRecDepth 20000 in
theorem ggX6_reel_X6_lengthOf : GoodIn wsX6_reel wsX6_lengthOf := goodIn_ca (goodIn_r _ [44, 6, 26, 27, 28, 4, 29, 53, 54, 55, 56, 57, 58, 59, 60, 61, 62, 63, 64, 65, 66, 67, 68, 69, 70, 71, 72, 73, 74, 75, 76, 77, 78, 79] (by decide +kernel) (by decide +kernel)) (goodIn_sub (fun _ h => List.mem_cons_of_mem _ (List.mem_append_right _ h)) (by decide +kernel))
set_option maxRecDepth 20000 in
theorem gX6_reel_X6_lengthOf : GoodIn wsX6_reel (wsV RX6 119 RX6 yX6_lengthOf wsX6_lengthOf) := goodIn_app (goodIn_of _ (by decide +kernel)) ggX6_reel_X6_lengthOf
set_option maxRecDepth 20000 in
theorem ggX6_reel_X6_done : GoodIn wsX6_reel wsX6_done := goodIn_r _ [52, 14, 53, 54, 55, 56, 57, 58, 59, 60, 61, 62, 63, 64, 65, 66, 67, 68, 69, 70, 71, 72, 73, 74, 75, 76, 77, 78, 79] (by decide +kernel) (by decide +kernel)
set_option maxRecDepth 20000 in
theorem gX6_reel_X6_done : GoodIn wsX6_reel (wsV RX6 71 RX6 yX6_done wsX6_done) := goodIn_app (goodIn_of _ (by decide +kernel)) ggX6_reel_X6_done
theorem dX6_reel_0 : decode cX6_reel 0 = .ok (.aload_n 0, 1) := by decide +kernel
theorem dX6_reel_1 : decode cX6_reel 1 = .ok (.iload_n 1, 1) := by decide +kernel
theorem dX6_reel_2 : decode cX6_reel 2 = .ok (.invokevirtual 78, 3) := by decide +kernel
theorem dX6_reel_5 : decode cX6_reel 5 = .ok (.ifCond .ne 9, 3) := by decide +kernel
theorem dX6_reel_8 : decode cX6_reel 8 = .ok (.aload_n 0, 1) := by decide +kernel
theorem dX6_reel_9 : decode cX6_reel 9 = .ok (.iconst 1, 1) := by decide +kernel
theorem dX6_reel_10 : decode cX6_reel 10 = .ok (.invokevirtual 45, 3) := by decide +kernel
theorem dX6_reel_13 : decode cX6_reel 13 = .ok (.ireturn, 1) := by decide +kernel
theorem dX6_reel_14 : decode cX6_reel 14 = .ok (.iload_n 2, 1) := by decide +kernel
theorem dX6_reel_15 : decode cX6_reel 15 = .ok (.invokestatic 74, 3) := by decide +kernel
theorem dX6_reel_18 : decode cX6_reel 18 = .ok (.ifCond .ne 9, 3) := by decide +kernel
theorem dX6_reel_21 : decode cX6_reel 21 = .ok (.aload_n 0, 1) := by decide +kernel
theorem dX6_reel_22 : decode cX6_reel 22 = .ok (.iconst 2, 1) := by decide +kernel
theorem dX6_reel_23 : decode cX6_reel 23 = .ok (.invokevirtual 45, 3) := by decide +kernel
theorem dX6_reel_26 : decode cX6_reel 26 = .ok (.ireturn, 1) := by decide +kernel
theorem dX6_reel_27 : decode cX6_reel 27 = .ok (.aload_n 0, 1) := by decide +kernel
theorem dX6_reel_28 : decode cX6_reel 28 = .ok (.iload_n 1, 1) := by decide +kernel
theorem dX6_reel_29 : decode cX6_reel 29 = .ok (.iload_n 2, 1) := by decide +kernel
theorem dX6_reel_30 : decode cX6_reel 30 = .ok (.invokevirtual 130, 3) := by decide +kernel
theorem dX6_reel_33 : decode cX6_reel 33 = .ok (.istore 4, 2) := by decide +kernel
theorem dX6_reel_35 : decode cX6_reel 35 = .ok (.aload_n 0, 1) := by decide +kernel
theorem dX6_reel_36 : decode cX6_reel 36 = .ok (.iload_n 3, 1) := by decide +kernel
theorem dX6_reel_37 : decode cX6_reel 37 = .ok (.ifCond .eq 12, 3) := by decide +kernel
theorem dX6_reel_40 : decode cX6_reel 40 = .ok (.aload_n 0, 1) := by decide +kernel
theorem dX6_reel_41 : decode cX6_reel 41 = .ok (.iload 4, 2) := by decide +kernel
theorem dX6_reel_43 : decode cX6_reel 43 = .ok (.invokevirtual 119, 3) := by decide +kernel
theorem dX6_reel_46 : decode cX6_reel 46 = .ok (.goto 5, 3) := by decide +kernel
theorem dX6_reel_49 : decode cX6_reel 49 = .ok (.iload 4, 2) := by decide +kernel
theorem dX6_reel_51 : decode cX6_reel 51 = .ok (.invokevirtual 71, 3) := by decide +kernel
theorem dX6_reel_54 : decode cX6_reel 54 = .ok (.ireturn, 1) := by decide +kernel
set_option maxRecDepth 20000 in
theorem ggX6_isOther_X6_stands : GoodIn wsX6_isOther wsX6_stands := goodIn_ca (goodIn_r _ [7, 8, 9, 10, 6, 11, 12, 13, 14, 15, 16, 17, 18, 19, 20, 21, 22, 23, 24, 25, 26, 27, 28, 29, 30, 31, 32, 33, 34, 35, 36, 37, 38, 39] (by decide +kernel) (by decide +kernel)) (goodIn_sub (fun _ h => List.mem_cons_of_mem _ (List.mem_append_right _ h)) (by decide +kernel))
set_option maxRecDepth 20000 in
theorem gX6_isOther_X6_stands : GoodIn wsX6_isOther (wsV RX6 107 RX6 yX6_stands wsX6_stands) := goodIn_app (goodIn_of _ (by decide +kernel)) ggX6_isOther_X6_stands
set_option maxRecDepth 20000 in
theorem ggX6_isOther_X6_showAt : GoodIn wsX6_isOther wsX6_showAt := goodIn_ca (goodIn_r _ [11, 12, 13, 14, 15, 16, 17, 18, 19, 20, 21, 22, 23, 24, 25, 26, 27, 28, 29, 30, 31, 32, 33, 34, 35, 36, 37, 38, 39] (by decide +kernel) (by decide +kernel)) (goodIn_sub (fun _ h => List.mem_cons_of_mem _ (List.mem_append_right _ h)) (by decide +kernel))
set_option maxRecDepth 20000 in
theorem gX6_isOther_X6_showAt : GoodIn wsX6_isOther (wsV RX6 89 RX6 yX6_showAt wsX6_showAt) := goodIn_app (goodIn_of _ (by decide +kernel)) ggX6_isOther_X6_showAt
theorem dX6_isOther_0 : decode cX6_isOther 0 = .ok (.iload_n 1, 1) := by decide +kernel
theorem dX6_isOther_1 : decode cX6_isOther 1 = .ok (.aload_n 0, 1) := by decide +kernel
theorem dX6_isOther_2 : decode cX6_isOther 2 = .ok (.getfield 133, 3) := by decide +kernel
theorem dX6_isOther_5 : decode cX6_isOther 5 = .ok (.if_icmp .eq 28, 3) := by decide +kernel
theorem dX6_isOther_8 : decode cX6_isOther 8 = .ok (.aload_n 0, 1) := by decide +kernel
theorem dX6_isOther_9 : decode cX6_isOther 9 = .ok (.iload_n 1, 1) := by decide +kernel
theorem dX6_isOther_10 : decode cX6_isOther 10 = .ok (.invokevirtual 107, 3) := by decide +kernel
theorem dX6_isOther_13 : decode cX6_isOther 13 = .ok (.ifCond .eq 20, 3) := by decide +kernel
theorem dX6_isOther_16 : decode cX6_isOther 16 = .ok (.aload_n 0, 1) := by decide +kernel
theorem dX6_isOther_17 : decode cX6_isOther 17 = .ok (.iload_n 1, 1) := by decide +kernel
theorem dX6_isOther_18 : decode cX6_isOther 18 = .ok (.iconst 2, 1) := by decide +kernel
theorem dX6_isOther_19 : decode cX6_isOther 19 = .ok (.invokevirtual 89, 3) := by decide +kernel
theorem dX6_isOther_22 : decode cX6_isOther 22 = .ok (.aload_n 0, 1) := by decide +kernel
theorem dX6_isOther_23 : decode cX6_isOther 23 = .ok (.getfield 136, 3) := by decide +kernel
theorem dX6_isOther_26 : decode cX6_isOther 26 = .ok (.if_icmp .ne 7, 3) := by decide +kernel
theorem dX6_isOther_29 : decode cX6_isOther 29 = .ok (.iconst 1, 1) := by decide +kernel
theorem dX6_isOther_30 : decode cX6_isOther 30 = .ok (.goto 4, 3) := by decide +kernel
theorem dX6_isOther_33 : decode cX6_isOther 33 = .ok (.iconst 0, 1) := by decide +kernel
theorem dX6_isOther_34 : decode cX6_isOther 34 = .ok (.ireturn, 1) := by decide +kernel
set_option maxRecDepth 20000 in
theorem ggX6_meetsInHall_X6_hallAt : GoodIn wsX6_meetsInHall wsX6_hallAt := goodIn_ca (goodIn_r _ [9, 3, 40, 41, 42, 43, 44, 45, 46, 47, 48, 49, 50, 51, 52, 53, 54, 55, 56, 57, 58, 59, 60, 61, 62, 63, 64, 65, 66] (by decide +kernel) (by decide +kernel)) (goodIn_sub (fun _ h => List.mem_cons_of_mem _ (List.mem_append_right _ h)) (by decide +kernel))
set_option maxRecDepth 20000 in
theorem gX6_meetsInHall_X6_hallAt : GoodIn wsX6_meetsInHall (wsV RX6 95 RX6 yX6_hallAt wsX6_hallAt) := goodIn_app (goodIn_of _ (by decide +kernel)) ggX6_meetsInHall_X6_hallAt
set_option maxRecDepth 20000 in
theorem ggX6_meetsInHall_X6_isOther : GoodIn wsX6_meetsInHall wsX6_isOther := goodIn_ca (goodIn_r _ [13, 14, 15, 16, 17, 18, 8, 19, 20, 21, 22, 23, 3, 40, 41, 42, 43, 44, 45, 46, 47, 48, 49, 50, 51, 52, 53, 54, 55, 56, 57, 58, 59, 60, 61, 62, 63, 64, 65, 66] (by decide +kernel) (by decide +kernel)) (goodIn_sub (fun _ h => List.mem_cons_of_mem _ (List.mem_append_right _ h)) (by decide +kernel))
set_option maxRecDepth 20000 in
theorem gX6_meetsInHall_X6_isOther : GoodIn wsX6_meetsInHall (wsV RX6 145 RX6 yX6_isOther wsX6_isOther) := goodIn_app (goodIn_of _ (by decide +kernel)) ggX6_meetsInHall_X6_isOther
set_option maxRecDepth 20000 in
theorem ggX6_meetsInHall_X6_showAt : GoodIn wsX6_meetsInHall wsX6_showAt := goodIn_ca (goodIn_r _ [23, 3, 40, 41, 42, 43, 44, 45, 46, 47, 48, 49, 50, 51, 52, 53, 54, 55, 56, 57, 58, 59, 60, 61, 62, 63, 64, 65, 66] (by decide +kernel) (by decide +kernel)) (goodIn_sub (fun _ h => List.mem_cons_of_mem _ (List.mem_append_right _ h)) (by decide +kernel))
set_option maxRecDepth 20000 in
theorem gX6_meetsInHall_X6_showAt : GoodIn wsX6_meetsInHall (wsV RX6 89 RX6 yX6_showAt wsX6_showAt) := goodIn_app (goodIn_of _ (by decide +kernel)) ggX6_meetsInHall_X6_showAt
set_option maxRecDepth 20000 in
theorem ggX6_meetsInHall_X6_endOf : GoodIn wsX6_meetsInHall wsX6_endOf := goodIn_ca (goodIn_r _ [27, 20, 21, 22, 8, 23, 3, 28, 29, 30, 31, 32, 33, 34, 35, 40, 41, 42, 43, 44, 45, 46, 47, 48, 49, 50, 51, 52, 53, 54, 55, 56, 57, 58, 59, 60, 61, 62, 63, 64, 65, 66] (by decide +kernel) (by decide +kernel)) (goodIn_sub (fun _ h => List.mem_cons_of_mem _ (List.mem_append_right _ h)) (by decide +kernel))
set_option maxRecDepth 20000 in
theorem gX6_meetsInHall_X6_endOf : GoodIn wsX6_meetsInHall (wsV RX6 151 RX6 yX6_endOf wsX6_endOf) := goodIn_app (goodIn_of _ (by decide +kernel)) ggX6_meetsInHall_X6_endOf
set_option maxRecDepth 20000 in
theorem ggX6_meetsInHall_X6_cleanOf : GoodIn wsX6_meetsInHall wsX6_cleanOf := goodIn_ca (goodIn_r _ [39, 20, 21, 22, 8, 23, 3, 5, 6, 7, 9, 40, 41, 42, 43, 44, 45, 46, 47, 48, 49, 50, 51, 52, 53, 54, 55, 56, 57, 58, 59, 60, 61, 62, 63, 64, 65, 66] (by decide +kernel) (by decide +kernel)) (goodIn_sub (fun _ h => List.mem_cons_of_mem _ (List.mem_append_right _ h)) (by decide +kernel))
set_option maxRecDepth 20000 in
theorem gX6_meetsInHall_X6_cleanOf : GoodIn wsX6_meetsInHall (wsV RX6 154 RX6 yX6_cleanOf wsX6_cleanOf) := goodIn_app (goodIn_of _ (by decide +kernel)) ggX6_meetsInHall_X6_cleanOf
theorem dX6_meetsInHall_0 : decode cX6_meetsInHall 0 = .ok (.aload_n 0, 1) := by decide +kernel
theorem dX6_meetsInHall_1 : decode cX6_meetsInHall 1 = .ok (.getfield 139, 3) := by decide +kernel
theorem dX6_meetsInHall_4 : decode cX6_meetsInHall 4 = .ok (.aload_n 0, 1) := by decide +kernel
theorem dX6_meetsInHall_5 : decode cX6_meetsInHall 5 = .ok (.aload_n 0, 1) := by decide +kernel
theorem dX6_meetsInHall_6 : decode cX6_meetsInHall 6 = .ok (.getfield 142, 3) := by decide +kernel
theorem dX6_meetsInHall_9 : decode cX6_meetsInHall 9 = .ok (.iconst 1, 1) := by decide +kernel
theorem dX6_meetsInHall_10 : decode cX6_meetsInHall 10 = .ok (.invokevirtual 95, 3) := by decide +kernel
theorem dX6_meetsInHall_13 : decode cX6_meetsInHall 13 = .ok (.iadd, 1) := by decide +kernel
theorem dX6_meetsInHall_14 : decode cX6_meetsInHall 14 = .ok (.istore_n 1, 1) := by decide +kernel
theorem dX6_meetsInHall_15 : decode cX6_meetsInHall 15 = .ok (.iconst 0, 1) := by decide +kernel
theorem dX6_meetsInHall_16 : decode cX6_meetsInHall 16 = .ok (.istore_n 2, 1) := by decide +kernel
theorem dX6_meetsInHall_17 : decode cX6_meetsInHall 17 = .ok (.iload_n 2, 1) := by decide +kernel
theorem dX6_meetsInHall_18 : decode cX6_meetsInHall 18 = .ok (.aload_n 0, 1) := by decide +kernel
theorem dX6_meetsInHall_19 : decode cX6_meetsInHall 19 = .ok (.getfield 9, 3) := by decide +kernel
theorem dX6_meetsInHall_22 : decode cX6_meetsInHall 22 = .ok (.iconst 4, 1) := by decide +kernel
theorem dX6_meetsInHall_23 : decode cX6_meetsInHall 23 = .ok (.iaload, 1) := by decide +kernel
theorem dX6_meetsInHall_24 : decode cX6_meetsInHall 24 = .ok (.if_icmp .ge 60, 3) := by decide +kernel
theorem dX6_meetsInHall_27 : decode cX6_meetsInHall 27 = .ok (.aload_n 0, 1) := by decide +kernel
theorem dX6_meetsInHall_28 : decode cX6_meetsInHall 28 = .ok (.iload_n 2, 1) := by decide +kernel
theorem dX6_meetsInHall_29 : decode cX6_meetsInHall 29 = .ok (.invokevirtual 145, 3) := by decide +kernel
theorem dX6_meetsInHall_32 : decode cX6_meetsInHall 32 = .ok (.ifCond .eq 46, 3) := by decide +kernel
theorem dX6_meetsInHall_35 : decode cX6_meetsInHall 35 = .ok (.aload_n 0, 1) := by decide +kernel
theorem dX6_meetsInHall_36 : decode cX6_meetsInHall 36 = .ok (.iload_n 2, 1) := by decide +kernel
theorem dX6_meetsInHall_37 : decode cX6_meetsInHall 37 = .ok (.iconst 0, 1) := by decide +kernel
theorem dX6_meetsInHall_38 : decode cX6_meetsInHall 38 = .ok (.invokevirtual 89, 3) := by decide +kernel
theorem dX6_meetsInHall_41 : decode cX6_meetsInHall 41 = .ok (.aload_n 0, 1) := by decide +kernel
theorem dX6_meetsInHall_42 : decode cX6_meetsInHall 42 = .ok (.getfield 142, 3) := by decide +kernel
theorem dX6_meetsInHall_45 : decode cX6_meetsInHall 45 = .ok (.if_icmp .ne 33, 3) := by decide +kernel
theorem dX6_meetsInHall_48 : decode cX6_meetsInHall 48 = .ok (.aload_n 0, 1) := by decide +kernel
theorem dX6_meetsInHall_49 : decode cX6_meetsInHall 49 = .ok (.iload_n 2, 1) := by decide +kernel
theorem dX6_meetsInHall_50 : decode cX6_meetsInHall 50 = .ok (.iconst 3, 1) := by decide +kernel
theorem dX6_meetsInHall_51 : decode cX6_meetsInHall 51 = .ok (.invokevirtual 89, 3) := by decide +kernel
theorem dX6_meetsInHall_54 : decode cX6_meetsInHall 54 = .ok (.iload_n 1, 1) := by decide +kernel
theorem dX6_meetsInHall_55 : decode cX6_meetsInHall 55 = .ok (.if_icmp .ge 23, 3) := by decide +kernel
theorem dX6_meetsInHall_58 : decode cX6_meetsInHall 58 = .ok (.aload_n 0, 1) := by decide +kernel
theorem dX6_meetsInHall_59 : decode cX6_meetsInHall 59 = .ok (.getfield 148, 3) := by decide +kernel
theorem dX6_meetsInHall_62 : decode cX6_meetsInHall 62 = .ok (.aload_n 0, 1) := by decide +kernel
theorem dX6_meetsInHall_63 : decode cX6_meetsInHall 63 = .ok (.iload_n 2, 1) := by decide +kernel
theorem dX6_meetsInHall_64 : decode cX6_meetsInHall 64 = .ok (.invokevirtual 151, 3) := by decide +kernel
theorem dX6_meetsInHall_67 : decode cX6_meetsInHall 67 = .ok (.aload_n 0, 1) := by decide +kernel
theorem dX6_meetsInHall_68 : decode cX6_meetsInHall 68 = .ok (.iload_n 2, 1) := by decide +kernel
theorem dX6_meetsInHall_69 : decode cX6_meetsInHall 69 = .ok (.invokevirtual 154, 3) := by decide +kernel
theorem dX6_meetsInHall_72 : decode cX6_meetsInHall 72 = .ok (.iadd, 1) := by decide +kernel
theorem dX6_meetsInHall_73 : decode cX6_meetsInHall 73 = .ok (.if_icmp .ge 5, 3) := by decide +kernel
theorem dX6_meetsInHall_76 : decode cX6_meetsInHall 76 = .ok (.iload_n 2, 1) := by decide +kernel
theorem dX6_meetsInHall_77 : decode cX6_meetsInHall 77 = .ok (.ireturn, 1) := by decide +kernel
theorem dX6_meetsInHall_78 : decode cX6_meetsInHall 78 = .ok (.iinc 2 1, 3) := by decide +kernel
theorem dX6_meetsInHall_81 : decode cX6_meetsInHall 81 = .ok (.goto (-64), 3) := by decide +kernel
theorem dX6_meetsInHall_84 : decode cX6_meetsInHall 84 = .ok (.iconst (-1), 1) := by decide +kernel
theorem dX6_meetsInHall_85 : decode cX6_meetsInHall 85 = .ok (.ireturn, 1) := by decide +kernel
set_option maxRecDepth 20000 in
theorem ggX6_copiesAt_X6_isOther : GoodIn wsX6_copiesAt wsX6_isOther := goodIn_ca (goodIn_r _ [7, 8, 9, 10, 11, 12, 6, 13, 14, 15, 16, 17, 1, 33, 34, 35, 36, 37, 38, 39, 40, 41, 42, 43, 44, 45, 46, 47, 48, 49, 50, 51, 52, 53, 54, 55, 56, 57, 58, 59] (by decide +kernel) (by decide +kernel)) (goodIn_sub (fun _ h => List.mem_cons_of_mem _ (List.mem_append_right _ h)) (by decide +kernel))
set_option maxRecDepth 20000 in
theorem gX6_copiesAt_X6_isOther : GoodIn wsX6_copiesAt (wsV RX6 145 RX6 yX6_isOther wsX6_isOther) := goodIn_app (goodIn_of _ (by decide +kernel)) ggX6_copiesAt_X6_isOther
set_option maxRecDepth 20000 in
theorem ggX6_copiesAt_X6_showAt : GoodIn wsX6_copiesAt wsX6_showAt := goodIn_ca (goodIn_r _ [17, 1, 33, 34, 35, 36, 37, 38, 39, 40, 41, 42, 43, 44, 45, 46, 47, 48, 49, 50, 51, 52, 53, 54, 55, 56, 57, 58, 59] (by decide +kernel) (by decide +kernel)) (goodIn_sub (fun _ h => List.mem_cons_of_mem _ (List.mem_append_right _ h)) (by decide +kernel))
set_option maxRecDepth 20000 in
theorem gX6_copiesAt_X6_showAt : GoodIn wsX6_copiesAt (wsV RX6 89 RX6 yX6_showAt wsX6_showAt) := goodIn_app (goodIn_of _ (by decide +kernel)) ggX6_copiesAt_X6_showAt
set_option maxRecDepth 20000 in
theorem ggX6_copiesAt_X6_endOf : GoodIn wsX6_copiesAt wsX6_endOf := goodIn_ca (goodIn_r _ [21, 14, 15, 16, 6, 17, 1, 22, 23, 24, 25, 26, 27, 28, 29, 33, 34, 35, 36, 37, 38, 39, 40, 41, 42, 43, 44, 45, 46, 47, 48, 49, 50, 51, 52, 53, 54, 55, 56, 57, 58, 59] (by decide +kernel) (by decide +kernel)) (goodIn_sub (fun _ h => List.mem_cons_of_mem _ (List.mem_append_right _ h)) (by decide +kernel))
set_option maxRecDepth 20000 in
theorem gX6_copiesAt_X6_endOf : GoodIn wsX6_copiesAt (wsV RX6 151 RX6 yX6_endOf wsX6_endOf) := goodIn_app (goodIn_of _ (by decide +kernel)) ggX6_copiesAt_X6_endOf
set_option maxRecDepth 20000 in
theorem ggX6_copiesAt_X6_in : GoodIn wsX6_copiesAt wsX6_in := goodIn_r _ [32] (by decide +kernel) (by decide +kernel)
set_option maxRecDepth 20000 in
theorem gX6_copiesAt_X6_in : GoodIn wsX6_copiesAt (va_wsS RX6 64 yX6_in wsX6_in) := goodIn_app (goodIn_of _ (by decide +kernel)) ggX6_copiesAt_X6_in
theorem dX6_copiesAt_0 : decode cX6_copiesAt 0 = .ok (.iconst 1, 1) := by decide +kernel
theorem dX6_copiesAt_1 : decode cX6_copiesAt 1 = .ok (.istore_n 2, 1) := by decide +kernel
theorem dX6_copiesAt_2 : decode cX6_copiesAt 2 = .ok (.iconst 0, 1) := by decide +kernel
theorem dX6_copiesAt_3 : decode cX6_copiesAt 3 = .ok (.istore_n 3, 1) := by decide +kernel
theorem dX6_copiesAt_4 : decode cX6_copiesAt 4 = .ok (.iload_n 3, 1) := by decide +kernel
theorem dX6_copiesAt_5 : decode cX6_copiesAt 5 = .ok (.aload_n 0, 1) := by decide +kernel
theorem dX6_copiesAt_6 : decode cX6_copiesAt 6 = .ok (.getfield 9, 3) := by decide +kernel
theorem dX6_copiesAt_9 : decode cX6_copiesAt 9 = .ok (.iconst 4, 1) := by decide +kernel
theorem dX6_copiesAt_10 : decode cX6_copiesAt 10 = .ok (.iaload, 1) := by decide +kernel
theorem dX6_copiesAt_11 : decode cX6_copiesAt 11 = .ok (.if_icmp .ge 66, 3) := by decide +kernel
theorem dX6_copiesAt_14 : decode cX6_copiesAt 14 = .ok (.iload_n 2, 1) := by decide +kernel
theorem dX6_copiesAt_15 : decode cX6_copiesAt 15 = .ok (.aload_n 0, 1) := by decide +kernel
theorem dX6_copiesAt_16 : decode cX6_copiesAt 16 = .ok (.iload_n 3, 1) := by decide +kernel
theorem dX6_copiesAt_17 : decode cX6_copiesAt 17 = .ok (.invokevirtual 145, 3) := by decide +kernel
theorem dX6_copiesAt_20 : decode cX6_copiesAt 20 = .ok (.ifCond .eq 48, 3) := by decide +kernel
theorem dX6_copiesAt_23 : decode cX6_copiesAt 23 = .ok (.aload_n 0, 1) := by decide +kernel
theorem dX6_copiesAt_24 : decode cX6_copiesAt 24 = .ok (.iload_n 3, 1) := by decide +kernel
theorem dX6_copiesAt_25 : decode cX6_copiesAt 25 = .ok (.iconst 1, 1) := by decide +kernel
theorem dX6_copiesAt_26 : decode cX6_copiesAt 26 = .ok (.invokevirtual 89, 3) := by decide +kernel
theorem dX6_copiesAt_29 : decode cX6_copiesAt 29 = .ok (.aload_n 0, 1) := by decide +kernel
theorem dX6_copiesAt_30 : decode cX6_copiesAt 30 = .ok (.getfield 157, 3) := by decide +kernel
theorem dX6_copiesAt_33 : decode cX6_copiesAt 33 = .ok (.if_icmp .ne 35, 3) := by decide +kernel
theorem dX6_copiesAt_36 : decode cX6_copiesAt 36 = .ok (.iload_n 1, 1) := by decide +kernel
theorem dX6_copiesAt_37 : decode cX6_copiesAt 37 = .ok (.aload_n 0, 1) := by decide +kernel
theorem dX6_copiesAt_38 : decode cX6_copiesAt 38 = .ok (.iload_n 3, 1) := by decide +kernel
theorem dX6_copiesAt_39 : decode cX6_copiesAt 39 = .ok (.iconst 3, 1) := by decide +kernel
theorem dX6_copiesAt_40 : decode cX6_copiesAt 40 = .ok (.invokevirtual 89, 3) := by decide +kernel
theorem dX6_copiesAt_43 : decode cX6_copiesAt 43 = .ok (.aload_n 0, 1) := by decide +kernel
theorem dX6_copiesAt_44 : decode cX6_copiesAt 44 = .ok (.iload_n 3, 1) := by decide +kernel
theorem dX6_copiesAt_45 : decode cX6_copiesAt 45 = .ok (.invokevirtual 151, 3) := by decide +kernel
theorem dX6_copiesAt_48 : decode cX6_copiesAt 48 = .ok (.aload_n 0, 1) := by decide +kernel
theorem dX6_copiesAt_49 : decode cX6_copiesAt 49 = .ok (.getfield 9, 3) := by decide +kernel
theorem dX6_copiesAt_52 : decode cX6_copiesAt 52 = .ok (.bipush 10, 2) := by decide +kernel
theorem dX6_copiesAt_54 : decode cX6_copiesAt 54 = .ok (.iaload, 1) := by decide +kernel
theorem dX6_copiesAt_55 : decode cX6_copiesAt 55 = .ok (.iadd, 1) := by decide +kernel
theorem dX6_copiesAt_56 : decode cX6_copiesAt 56 = .ok (.iconst 1, 1) := by decide +kernel
theorem dX6_copiesAt_57 : decode cX6_copiesAt 57 = .ok (.isub, 1) := by decide +kernel
theorem dX6_copiesAt_58 : decode cX6_copiesAt 58 = .ok (.invokestatic 64, 3) := by decide +kernel
theorem dX6_copiesAt_61 : decode cX6_copiesAt 61 = .ok (.ifCond .eq 7, 3) := by decide +kernel
theorem dX6_copiesAt_64 : decode cX6_copiesAt 64 = .ok (.iconst 1, 1) := by decide +kernel
theorem dX6_copiesAt_65 : decode cX6_copiesAt 65 = .ok (.goto 4, 3) := by decide +kernel
theorem dX6_copiesAt_68 : decode cX6_copiesAt 68 = .ok (.iconst 0, 1) := by decide +kernel
theorem dX6_copiesAt_69 : decode cX6_copiesAt 69 = .ok (.iadd, 1) := by decide +kernel
theorem dX6_copiesAt_70 : decode cX6_copiesAt 70 = .ok (.istore_n 2, 1) := by decide +kernel
theorem dX6_copiesAt_71 : decode cX6_copiesAt 71 = .ok (.iinc 3 1, 3) := by decide +kernel
theorem dX6_copiesAt_74 : decode cX6_copiesAt 74 = .ok (.goto (-70), 3) := by decide +kernel
theorem dX6_copiesAt_77 : decode cX6_copiesAt 77 = .ok (.iload_n 2, 1) := by decide +kernel
theorem dX6_copiesAt_78 : decode cX6_copiesAt 78 = .ok (.ireturn, 1) := by decide +kernel
set_option maxRecDepth 20000 in
theorem ggX6_tooManyCopies_X6_copiesAt : GoodIn wsX6_tooManyCopies wsX6_copiesAt := goodIn_ca (goodIn_r _ [9, 2, 4, 10, 11, 12, 8, 13, 14, 15, 16, 17, 18, 19, 20, 21, 22, 23, 24, 25, 26, 27, 28, 29, 30, 31, 32, 33, 34, 35, 36, 37, 38, 39, 40, 41, 42, 43, 44, 45, 46, 47, 48, 49, 50, 51, 52, 53, 54, 55, 56, 57, 58, 59, 60, 61, 62, 63, 64, 65] (by decide +kernel) (by decide +kernel)) (goodIn_sub (fun _ h => List.mem_cons_of_mem _ (List.mem_append_right _ h)) (by decide +kernel))
set_option maxRecDepth 20000 in
theorem gX6_tooManyCopies_X6_copiesAt : GoodIn wsX6_tooManyCopies (wsV RX6 160 RX6 yX6_copiesAt wsX6_copiesAt) := goodIn_app (goodIn_of _ (by decide +kernel)) ggX6_tooManyCopies_X6_copiesAt
set_option maxRecDepth 20000 in
theorem ggX6_tooManyCopies_X6_filmAt : GoodIn wsX6_tooManyCopies wsX6_filmAt := goodIn_ca (goodIn_r _ [35, 2, 39, 40, 41, 42, 43, 44, 45, 46, 47, 48, 49, 50, 51, 52, 53, 54, 55, 56, 57, 58, 59, 60, 61, 62, 63, 64, 65] (by decide +kernel) (by decide +kernel)) (goodIn_sub (fun _ h => List.mem_cons_of_mem _ (List.mem_append_right _ h)) (by decide +kernel))
set_option maxRecDepth 20000 in
theorem gX6_tooManyCopies_X6_filmAt : GoodIn wsX6_tooManyCopies (wsV RX6 81 RX6 yX6_filmAt wsX6_filmAt) := goodIn_app (goodIn_of _ (by decide +kernel)) ggX6_tooManyCopies_X6_filmAt
set_option maxRecDepth 20000 in
theorem ggX6_tooManyCopies_X6_showAt : GoodIn wsX6_tooManyCopies wsX6_showAt := goodIn_ca (goodIn_r _ [23, 2, 39, 40, 41, 42, 43, 44, 45, 46, 47, 48, 49, 50, 51, 52, 53, 54, 55, 56, 57, 58, 59, 60, 61, 62, 63, 64, 65] (by decide +kernel) (by decide +kernel)) (goodIn_sub (fun _ h => List.mem_cons_of_mem _ (List.mem_append_right _ h)) (by decide +kernel))
set_option maxRecDepth 20000 in
theorem gX6_tooManyCopies_X6_showAt : GoodIn wsX6_tooManyCopies (wsV RX6 89 RX6 yX6_showAt wsX6_showAt) := goodIn_app (goodIn_of _ (by decide +kernel)) ggX6_tooManyCopies_X6_showAt
set_option maxRecDepth 20000 in
theorem ggX6_tooManyCopies_X6_isOther : GoodIn wsX6_tooManyCopies wsX6_isOther := goodIn_ca (goodIn_r _ [13, 14, 15, 16, 17, 18, 8, 19, 20, 21, 22, 23, 2, 39, 40, 41, 42, 43, 44, 45, 46, 47, 48, 49, 50, 51, 52, 53, 54, 55, 56, 57, 58, 59, 60, 61, 62, 63, 64, 65] (by decide +kernel) (by decide +kernel)) (goodIn_sub (fun _ h => List.mem_cons_of_mem _ (List.mem_append_right _ h)) (by decide +kernel))
set_option maxRecDepth 20000 in
theorem gX6_tooManyCopies_X6_isOther : GoodIn wsX6_tooManyCopies (wsV RX6 145 RX6 yX6_isOther wsX6_isOther) := goodIn_app (goodIn_of _ (by decide +kernel)) ggX6_tooManyCopies_X6_isOther
theorem dX6_tooManyCopies_0 : decode cX6_tooManyCopies 0 = .ok (.aload_n 0, 1) := by decide +kernel
theorem dX6_tooManyCopies_1 : decode cX6_tooManyCopies 1 = .ok (.getfield 139, 3) := by decide +kernel
theorem dX6_tooManyCopies_4 : decode cX6_tooManyCopies 4 = .ok (.aload_n 0, 1) := by decide +kernel
theorem dX6_tooManyCopies_5 : decode cX6_tooManyCopies 5 = .ok (.getfield 9, 3) := by decide +kernel
theorem dX6_tooManyCopies_8 : decode cX6_tooManyCopies 8 = .ok (.bipush 10, 2) := by decide +kernel
theorem dX6_tooManyCopies_10 : decode cX6_tooManyCopies 10 = .ok (.iaload, 1) := by decide +kernel
theorem dX6_tooManyCopies_11 : decode cX6_tooManyCopies 11 = .ok (.iadd, 1) := by decide +kernel
theorem dX6_tooManyCopies_12 : decode cX6_tooManyCopies 12 = .ok (.istore_n 1, 1) := by decide +kernel
theorem dX6_tooManyCopies_13 : decode cX6_tooManyCopies 13 = .ok (.aload_n 0, 1) := by decide +kernel
theorem dX6_tooManyCopies_14 : decode cX6_tooManyCopies 14 = .ok (.aload_n 0, 1) := by decide +kernel
theorem dX6_tooManyCopies_15 : decode cX6_tooManyCopies 15 = .ok (.getfield 148, 3) := by decide +kernel
theorem dX6_tooManyCopies_18 : decode cX6_tooManyCopies 18 = .ok (.invokevirtual 160, 3) := by decide +kernel
theorem dX6_tooManyCopies_21 : decode cX6_tooManyCopies 21 = .ok (.aload_n 0, 1) := by decide +kernel
theorem dX6_tooManyCopies_22 : decode cX6_tooManyCopies 22 = .ok (.aload_n 0, 1) := by decide +kernel
theorem dX6_tooManyCopies_23 : decode cX6_tooManyCopies 23 = .ok (.getfield 157, 3) := by decide +kernel
theorem dX6_tooManyCopies_26 : decode cX6_tooManyCopies 26 = .ok (.iconst 3, 1) := by decide +kernel
theorem dX6_tooManyCopies_27 : decode cX6_tooManyCopies 27 = .ok (.invokevirtual 81, 3) := by decide +kernel
theorem dX6_tooManyCopies_30 : decode cX6_tooManyCopies 30 = .ok (.if_icmp .le 10, 3) := by decide +kernel
theorem dX6_tooManyCopies_33 : decode cX6_tooManyCopies 33 = .ok (.aload_n 0, 1) := by decide +kernel
theorem dX6_tooManyCopies_34 : decode cX6_tooManyCopies 34 = .ok (.getfield 148, 3) := by decide +kernel
theorem dX6_tooManyCopies_37 : decode cX6_tooManyCopies 37 = .ok (.goto 4, 3) := by decide +kernel
theorem dX6_tooManyCopies_40 : decode cX6_tooManyCopies 40 = .ok (.iconst (-1), 1) := by decide +kernel
theorem dX6_tooManyCopies_41 : decode cX6_tooManyCopies 41 = .ok (.istore_n 2, 1) := by decide +kernel
theorem dX6_tooManyCopies_42 : decode cX6_tooManyCopies 42 = .ok (.iconst 0, 1) := by decide +kernel
theorem dX6_tooManyCopies_43 : decode cX6_tooManyCopies 43 = .ok (.istore_n 3, 1) := by decide +kernel
theorem dX6_tooManyCopies_44 : decode cX6_tooManyCopies 44 = .ok (.iload_n 3, 1) := by decide +kernel
theorem dX6_tooManyCopies_45 : decode cX6_tooManyCopies 45 = .ok (.aload_n 0, 1) := by decide +kernel
theorem dX6_tooManyCopies_46 : decode cX6_tooManyCopies 46 = .ok (.getfield 9, 3) := by decide +kernel
theorem dX6_tooManyCopies_49 : decode cX6_tooManyCopies 49 = .ok (.iconst 4, 1) := by decide +kernel
theorem dX6_tooManyCopies_50 : decode cX6_tooManyCopies 50 = .ok (.iaload, 1) := by decide +kernel
theorem dX6_tooManyCopies_51 : decode cX6_tooManyCopies 51 = .ok (.if_icmp .ge 72, 3) := by decide +kernel
theorem dX6_tooManyCopies_54 : decode cX6_tooManyCopies 54 = .ok (.aload_n 0, 1) := by decide +kernel
theorem dX6_tooManyCopies_55 : decode cX6_tooManyCopies 55 = .ok (.iload_n 3, 1) := by decide +kernel
theorem dX6_tooManyCopies_56 : decode cX6_tooManyCopies 56 = .ok (.iconst 3, 1) := by decide +kernel
theorem dX6_tooManyCopies_57 : decode cX6_tooManyCopies 57 = .ok (.invokevirtual 89, 3) := by decide +kernel
theorem dX6_tooManyCopies_60 : decode cX6_tooManyCopies 60 = .ok (.istore 4, 2) := by decide +kernel
theorem dX6_tooManyCopies_62 : decode cX6_tooManyCopies 62 = .ok (.aload_n 0, 1) := by decide +kernel
theorem dX6_tooManyCopies_63 : decode cX6_tooManyCopies 63 = .ok (.iload_n 3, 1) := by decide +kernel
theorem dX6_tooManyCopies_64 : decode cX6_tooManyCopies 64 = .ok (.invokevirtual 145, 3) := by decide +kernel
theorem dX6_tooManyCopies_67 : decode cX6_tooManyCopies 67 = .ok (.ifCond .eq 50, 3) := by decide +kernel
theorem dX6_tooManyCopies_70 : decode cX6_tooManyCopies 70 = .ok (.iload 4, 2) := by decide +kernel
theorem dX6_tooManyCopies_72 : decode cX6_tooManyCopies 72 = .ok (.aload_n 0, 1) := by decide +kernel
theorem dX6_tooManyCopies_73 : decode cX6_tooManyCopies 73 = .ok (.getfield 148, 3) := by decide +kernel
theorem dX6_tooManyCopies_76 : decode cX6_tooManyCopies 76 = .ok (.if_icmp .le 41, 3) := by decide +kernel
theorem dX6_tooManyCopies_79 : decode cX6_tooManyCopies 79 = .ok (.iload 4, 2) := by decide +kernel
theorem dX6_tooManyCopies_81 : decode cX6_tooManyCopies 81 = .ok (.iload_n 1, 1) := by decide +kernel
theorem dX6_tooManyCopies_82 : decode cX6_tooManyCopies 82 = .ok (.if_icmp .ge 35, 3) := by decide +kernel
theorem dX6_tooManyCopies_85 : decode cX6_tooManyCopies 85 = .ok (.iload_n 2, 1) := by decide +kernel
theorem dX6_tooManyCopies_86 : decode cX6_tooManyCopies 86 = .ok (.iconst (-1), 1) := by decide +kernel
theorem dX6_tooManyCopies_87 : decode cX6_tooManyCopies 87 = .ok (.if_icmp .eq 9, 3) := by decide +kernel
theorem dX6_tooManyCopies_90 : decode cX6_tooManyCopies 90 = .ok (.iload 4, 2) := by decide +kernel
theorem dX6_tooManyCopies_92 : decode cX6_tooManyCopies 92 = .ok (.iload_n 2, 1) := by decide +kernel
theorem dX6_tooManyCopies_93 : decode cX6_tooManyCopies 93 = .ok (.if_icmp .ge 24, 3) := by decide +kernel
theorem dX6_tooManyCopies_96 : decode cX6_tooManyCopies 96 = .ok (.aload_n 0, 1) := by decide +kernel
theorem dX6_tooManyCopies_97 : decode cX6_tooManyCopies 97 = .ok (.iload 4, 2) := by decide +kernel
theorem dX6_tooManyCopies_99 : decode cX6_tooManyCopies 99 = .ok (.invokevirtual 160, 3) := by decide +kernel
theorem dX6_tooManyCopies_102 : decode cX6_tooManyCopies 102 = .ok (.aload_n 0, 1) := by decide +kernel
theorem dX6_tooManyCopies_103 : decode cX6_tooManyCopies 103 = .ok (.aload_n 0, 1) := by decide +kernel
theorem dX6_tooManyCopies_104 : decode cX6_tooManyCopies 104 = .ok (.getfield 157, 3) := by decide +kernel
theorem dX6_tooManyCopies_107 : decode cX6_tooManyCopies 107 = .ok (.iconst 3, 1) := by decide +kernel
theorem dX6_tooManyCopies_108 : decode cX6_tooManyCopies 108 = .ok (.invokevirtual 81, 3) := by decide +kernel
theorem dX6_tooManyCopies_111 : decode cX6_tooManyCopies 111 = .ok (.if_icmp .le 6, 3) := by decide +kernel
theorem dX6_tooManyCopies_114 : decode cX6_tooManyCopies 114 = .ok (.iload 4, 2) := by decide +kernel
theorem dX6_tooManyCopies_116 : decode cX6_tooManyCopies 116 = .ok (.istore_n 2, 1) := by decide +kernel
theorem dX6_tooManyCopies_117 : decode cX6_tooManyCopies 117 = .ok (.iinc 3 1, 3) := by decide +kernel
theorem dX6_tooManyCopies_120 : decode cX6_tooManyCopies 120 = .ok (.goto (-76), 3) := by decide +kernel
theorem dX6_tooManyCopies_123 : decode cX6_tooManyCopies 123 = .ok (.iload_n 2, 1) := by decide +kernel
theorem dX6_tooManyCopies_124 : decode cX6_tooManyCopies 124 = .ok (.ireturn, 1) := by decide +kernel
set_option maxRecDepth 20000 in
theorem ggX6_meetsAtExit_X6_endOf : GoodIn wsX6_meetsAtExit wsX6_endOf := goodIn_ca (goodIn_r _ [8, 9, 10, 11, 7, 12, 1, 13, 14, 15, 16, 17, 18, 19, 20, 35, 36, 37, 38, 39, 40, 41, 42, 43, 44, 45, 46, 47, 48, 49, 50, 51, 52, 53, 54, 55, 56, 57, 58, 59, 60, 61] (by decide +kernel) (by decide +kernel)) (goodIn_sub (fun _ h => List.mem_cons_of_mem _ (List.mem_append_right _ h)) (by decide +kernel))
set_option maxRecDepth 20000 in
theorem gX6_meetsAtExit_X6_endOf : GoodIn wsX6_meetsAtExit (wsV RX6 151 RX6 yX6_endOf wsX6_endOf) := goodIn_app (goodIn_of _ (by decide +kernel)) ggX6_meetsAtExit_X6_endOf
set_option maxRecDepth 20000 in
theorem ggX6_meetsAtExit_X6_isOther : GoodIn wsX6_meetsAtExit wsX6_isOther := goodIn_ca (goodIn_r _ [24, 25, 26, 27, 28, 29, 7, 30, 9, 10, 11, 12, 1, 35, 36, 37, 38, 39, 40, 41, 42, 43, 44, 45, 46, 47, 48, 49, 50, 51, 52, 53, 54, 55, 56, 57, 58, 59, 60, 61] (by decide +kernel) (by decide +kernel)) (goodIn_sub (fun _ h => List.mem_cons_of_mem _ (List.mem_append_right _ h)) (by decide +kernel))
set_option maxRecDepth 20000 in
theorem gX6_meetsAtExit_X6_isOther : GoodIn wsX6_meetsAtExit (wsV RX6 145 RX6 yX6_isOther wsX6_isOther) := goodIn_app (goodIn_of _ (by decide +kernel)) ggX6_meetsAtExit_X6_isOther
set_option maxRecDepth 20000 in
theorem ggX6_meetsAtExit_X6_showAt : GoodIn wsX6_meetsAtExit wsX6_showAt := goodIn_ca (goodIn_r _ [12, 1, 35, 36, 37, 38, 39, 40, 41, 42, 43, 44, 45, 46, 47, 48, 49, 50, 51, 52, 53, 54, 55, 56, 57, 58, 59, 60, 61] (by decide +kernel) (by decide +kernel)) (goodIn_sub (fun _ h => List.mem_cons_of_mem _ (List.mem_append_right _ h)) (by decide +kernel))
set_option maxRecDepth 20000 in
theorem gX6_meetsAtExit_X6_showAt : GoodIn wsX6_meetsAtExit (wsV RX6 89 RX6 yX6_showAt wsX6_showAt) := goodIn_app (goodIn_of _ (by decide +kernel)) ggX6_meetsAtExit_X6_showAt
set_option maxRecDepth 20000 in
theorem ggX6_meetsAtExit_X6_hallAt : GoodIn wsX6_meetsAtExit wsX6_hallAt := goodIn_ca (goodIn_r _ [34, 1, 35, 36, 37, 38, 39, 40, 41, 42, 43, 44, 45, 46, 47, 48, 49, 50, 51, 52, 53, 54, 55, 56, 57, 58, 59, 60, 61] (by decide +kernel) (by decide +kernel)) (goodIn_sub (fun _ h => List.mem_cons_of_mem _ (List.mem_append_right _ h)) (by decide +kernel))
set_option maxRecDepth 20000 in
theorem gX6_meetsAtExit_X6_hallAt : GoodIn wsX6_meetsAtExit (wsV RX6 95 RX6 yX6_hallAt wsX6_hallAt) := goodIn_app (goodIn_of _ (by decide +kernel)) ggX6_meetsAtExit_X6_hallAt
theorem dX6_meetsAtExit_0 : decode cX6_meetsAtExit 0 = .ok (.iconst 0, 1) := by decide +kernel
theorem dX6_meetsAtExit_1 : decode cX6_meetsAtExit 1 = .ok (.istore_n 1, 1) := by decide +kernel
theorem dX6_meetsAtExit_2 : decode cX6_meetsAtExit 2 = .ok (.iload_n 1, 1) := by decide +kernel
theorem dX6_meetsAtExit_3 : decode cX6_meetsAtExit 3 = .ok (.aload_n 0, 1) := by decide +kernel
theorem dX6_meetsAtExit_4 : decode cX6_meetsAtExit 4 = .ok (.getfield 9, 3) := by decide +kernel
theorem dX6_meetsAtExit_7 : decode cX6_meetsAtExit 7 = .ok (.iconst 4, 1) := by decide +kernel
theorem dX6_meetsAtExit_8 : decode cX6_meetsAtExit 8 = .ok (.iaload, 1) := by decide +kernel
theorem dX6_meetsAtExit_9 : decode cX6_meetsAtExit 9 = .ok (.if_icmp .ge 73, 3) := by decide +kernel
theorem dX6_meetsAtExit_12 : decode cX6_meetsAtExit 12 = .ok (.aload_n 0, 1) := by decide +kernel
theorem dX6_meetsAtExit_13 : decode cX6_meetsAtExit 13 = .ok (.iload_n 1, 1) := by decide +kernel
theorem dX6_meetsAtExit_14 : decode cX6_meetsAtExit 14 = .ok (.invokevirtual 151, 3) := by decide +kernel
theorem dX6_meetsAtExit_17 : decode cX6_meetsAtExit 17 = .ok (.aload_n 0, 1) := by decide +kernel
theorem dX6_meetsAtExit_18 : decode cX6_meetsAtExit 18 = .ok (.getfield 139, 3) := by decide +kernel
theorem dX6_meetsAtExit_21 : decode cX6_meetsAtExit 21 = .ok (.isub, 1) := by decide +kernel
theorem dX6_meetsAtExit_22 : decode cX6_meetsAtExit 22 = .ok (.istore_n 2, 1) := by decide +kernel
theorem dX6_meetsAtExit_23 : decode cX6_meetsAtExit 23 = .ok (.aload_n 0, 1) := by decide +kernel
theorem dX6_meetsAtExit_24 : decode cX6_meetsAtExit 24 = .ok (.iload_n 1, 1) := by decide +kernel
theorem dX6_meetsAtExit_25 : decode cX6_meetsAtExit 25 = .ok (.invokevirtual 145, 3) := by decide +kernel
theorem dX6_meetsAtExit_28 : decode cX6_meetsAtExit 28 = .ok (.ifCond .eq 48, 3) := by decide +kernel
theorem dX6_meetsAtExit_31 : decode cX6_meetsAtExit 31 = .ok (.aload_n 0, 1) := by decide +kernel
theorem dX6_meetsAtExit_32 : decode cX6_meetsAtExit 32 = .ok (.aload_n 0, 1) := by decide +kernel
theorem dX6_meetsAtExit_33 : decode cX6_meetsAtExit 33 = .ok (.iload_n 1, 1) := by decide +kernel
theorem dX6_meetsAtExit_34 : decode cX6_meetsAtExit 34 = .ok (.iconst 0, 1) := by decide +kernel
theorem dX6_meetsAtExit_35 : decode cX6_meetsAtExit 35 = .ok (.invokevirtual 89, 3) := by decide +kernel
theorem dX6_meetsAtExit_38 : decode cX6_meetsAtExit 38 = .ok (.iconst 2, 1) := by decide +kernel
theorem dX6_meetsAtExit_39 : decode cX6_meetsAtExit 39 = .ok (.invokevirtual 95, 3) := by decide +kernel
theorem dX6_meetsAtExit_42 : decode cX6_meetsAtExit 42 = .ok (.aload_n 0, 1) := by decide +kernel
theorem dX6_meetsAtExit_43 : decode cX6_meetsAtExit 43 = .ok (.aload_n 0, 1) := by decide +kernel
theorem dX6_meetsAtExit_44 : decode cX6_meetsAtExit 44 = .ok (.getfield 142, 3) := by decide +kernel
theorem dX6_meetsAtExit_47 : decode cX6_meetsAtExit 47 = .ok (.iconst 2, 1) := by decide +kernel
theorem dX6_meetsAtExit_48 : decode cX6_meetsAtExit 48 = .ok (.invokevirtual 95, 3) := by decide +kernel
theorem dX6_meetsAtExit_51 : decode cX6_meetsAtExit 51 = .ok (.if_icmp .ne 25, 3) := by decide +kernel
theorem dX6_meetsAtExit_54 : decode cX6_meetsAtExit 54 = .ok (.iload_n 2, 1) := by decide +kernel
theorem dX6_meetsAtExit_55 : decode cX6_meetsAtExit 55 = .ok (.ifCond .ge 8, 3) := by decide +kernel
theorem dX6_meetsAtExit_58 : decode cX6_meetsAtExit 58 = .ok (.iload_n 2, 1) := by decide +kernel
theorem dX6_meetsAtExit_59 : decode cX6_meetsAtExit 59 = .ok (.ineg, 1) := by decide +kernel
theorem dX6_meetsAtExit_60 : decode cX6_meetsAtExit 60 = .ok (.goto 4, 3) := by decide +kernel
theorem dX6_meetsAtExit_63 : decode cX6_meetsAtExit 63 = .ok (.iload_n 2, 1) := by decide +kernel
theorem dX6_meetsAtExit_64 : decode cX6_meetsAtExit 64 = .ok (.aload_n 0, 1) := by decide +kernel
theorem dX6_meetsAtExit_65 : decode cX6_meetsAtExit 65 = .ok (.getfield 9, 3) := by decide +kernel
theorem dX6_meetsAtExit_68 : decode cX6_meetsAtExit 68 = .ok (.bipush 8, 2) := by decide +kernel
theorem dX6_meetsAtExit_70 : decode cX6_meetsAtExit 70 = .ok (.iaload, 1) := by decide +kernel
theorem dX6_meetsAtExit_71 : decode cX6_meetsAtExit 71 = .ok (.if_icmp .ge 5, 3) := by decide +kernel
theorem dX6_meetsAtExit_74 : decode cX6_meetsAtExit 74 = .ok (.iload_n 1, 1) := by decide +kernel
theorem dX6_meetsAtExit_75 : decode cX6_meetsAtExit 75 = .ok (.ireturn, 1) := by decide +kernel
theorem dX6_meetsAtExit_76 : decode cX6_meetsAtExit 76 = .ok (.iinc 1 1, 3) := by decide +kernel
theorem dX6_meetsAtExit_79 : decode cX6_meetsAtExit 79 = .ok (.goto (-77), 3) := by decide +kernel
theorem dX6_meetsAtExit_82 : decode cX6_meetsAtExit 82 = .ok (.iconst (-1), 1) := by decide +kernel
theorem dX6_meetsAtExit_83 : decode cX6_meetsAtExit 83 = .ok (.ireturn, 1) := by decide +kernel
set_option maxRecDepth 20000 in
theorem ggX6_cleanedAt_X6_isOther : GoodIn wsX6_cleanedAt wsX6_isOther := goodIn_ca (goodIn_r _ [6, 7, 8, 9, 10, 11, 5, 12, 13, 14, 15, 16, 1, 40, 41, 42, 43, 44, 45, 46, 47, 48, 49, 50, 51, 52, 53, 54, 55, 56, 57, 58, 59, 60, 61, 62, 63, 64, 65, 66] (by decide +kernel) (by decide +kernel)) (goodIn_sub (fun _ h => List.mem_cons_of_mem _ (List.mem_append_right _ h)) (by decide +kernel))
set_option maxRecDepth 20000 in
theorem gX6_cleanedAt_X6_isOther : GoodIn wsX6_cleanedAt (wsV RX6 145 RX6 yX6_isOther wsX6_isOther) := goodIn_app (goodIn_of _ (by decide +kernel)) ggX6_cleanedAt_X6_isOther
set_option maxRecDepth 20000 in
theorem ggX6_cleanedAt_X6_endOf : GoodIn wsX6_cleanedAt wsX6_endOf := goodIn_ca (goodIn_r _ [20, 13, 14, 15, 5, 16, 1, 21, 22, 23, 24, 25, 26, 27, 28, 40, 41, 42, 43, 44, 45, 46, 47, 48, 49, 50, 51, 52, 53, 54, 55, 56, 57, 58, 59, 60, 61, 62, 63, 64, 65, 66] (by decide +kernel) (by decide +kernel)) (goodIn_sub (fun _ h => List.mem_cons_of_mem _ (List.mem_append_right _ h)) (by decide +kernel))
set_option maxRecDepth 20000 in
theorem gX6_cleanedAt_X6_endOf : GoodIn wsX6_cleanedAt (wsV RX6 151 RX6 yX6_endOf wsX6_endOf) := goodIn_app (goodIn_of _ (by decide +kernel)) ggX6_cleanedAt_X6_endOf
set_option maxRecDepth 20000 in
theorem ggX6_cleanedAt_X6_cleanOf : GoodIn wsX6_cleanedAt wsX6_cleanOf := goodIn_ca (goodIn_r _ [32, 13, 14, 15, 5, 16, 1, 33, 34, 35, 36, 40, 41, 42, 43, 44, 45, 46, 47, 48, 49, 50, 51, 52, 53, 54, 55, 56, 57, 58, 59, 60, 61, 62, 63, 64, 65, 66] (by decide +kernel) (by decide +kernel)) (goodIn_sub (fun _ h => List.mem_cons_of_mem _ (List.mem_append_right _ h)) (by decide +kernel))
set_option maxRecDepth 20000 in
theorem gX6_cleanedAt_X6_cleanOf : GoodIn wsX6_cleanedAt (wsV RX6 154 RX6 yX6_cleanOf wsX6_cleanOf) := goodIn_app (goodIn_of _ (by decide +kernel)) ggX6_cleanedAt_X6_cleanOf
set_option maxRecDepth 20000 in
theorem ggX6_cleanedAt_X6_in : GoodIn wsX6_cleanedAt wsX6_in := goodIn_r _ [39] (by decide +kernel) (by decide +kernel)
set_option maxRecDepth 20000 in
theorem gX6_cleanedAt_X6_in : GoodIn wsX6_cleanedAt (va_wsS RX6 64 yX6_in wsX6_in) := goodIn_app (goodIn_of _ (by decide +kernel)) ggX6_cleanedAt_X6_in
theorem dX6_cleanedAt_0 : decode cX6_cleanedAt 0 = .ok (.iconst 1, 1) := by decide +kernel
theorem dX6_cleanedAt_1 : decode cX6_cleanedAt 1 = .ok (.istore_n 2, 1) := by decide +kernel
theorem dX6_cleanedAt_2 : decode cX6_cleanedAt 2 = .ok (.iconst 0, 1) := by decide +kernel
theorem dX6_cleanedAt_3 : decode cX6_cleanedAt 3 = .ok (.istore_n 3, 1) := by decide +kernel
theorem dX6_cleanedAt_4 : decode cX6_cleanedAt 4 = .ok (.iload_n 3, 1) := by decide +kernel
theorem dX6_cleanedAt_5 : decode cX6_cleanedAt 5 = .ok (.aload_n 0, 1) := by decide +kernel
theorem dX6_cleanedAt_6 : decode cX6_cleanedAt 6 = .ok (.getfield 9, 3) := by decide +kernel
theorem dX6_cleanedAt_9 : decode cX6_cleanedAt 9 = .ok (.iconst 4, 1) := by decide +kernel
theorem dX6_cleanedAt_10 : decode cX6_cleanedAt 10 = .ok (.iaload, 1) := by decide +kernel
theorem dX6_cleanedAt_11 : decode cX6_cleanedAt 11 = .ok (.if_icmp .ge 50, 3) := by decide +kernel
theorem dX6_cleanedAt_14 : decode cX6_cleanedAt 14 = .ok (.iload_n 2, 1) := by decide +kernel
theorem dX6_cleanedAt_15 : decode cX6_cleanedAt 15 = .ok (.aload_n 0, 1) := by decide +kernel
theorem dX6_cleanedAt_16 : decode cX6_cleanedAt 16 = .ok (.iload_n 3, 1) := by decide +kernel
theorem dX6_cleanedAt_17 : decode cX6_cleanedAt 17 = .ok (.invokevirtual 145, 3) := by decide +kernel
theorem dX6_cleanedAt_20 : decode cX6_cleanedAt 20 = .ok (.ifCond .eq 32, 3) := by decide +kernel
theorem dX6_cleanedAt_23 : decode cX6_cleanedAt 23 = .ok (.iload_n 1, 1) := by decide +kernel
theorem dX6_cleanedAt_24 : decode cX6_cleanedAt 24 = .ok (.aload_n 0, 1) := by decide +kernel
theorem dX6_cleanedAt_25 : decode cX6_cleanedAt 25 = .ok (.iload_n 3, 1) := by decide +kernel
theorem dX6_cleanedAt_26 : decode cX6_cleanedAt 26 = .ok (.invokevirtual 151, 3) := by decide +kernel
theorem dX6_cleanedAt_29 : decode cX6_cleanedAt 29 = .ok (.aload_n 0, 1) := by decide +kernel
theorem dX6_cleanedAt_30 : decode cX6_cleanedAt 30 = .ok (.iload_n 3, 1) := by decide +kernel
theorem dX6_cleanedAt_31 : decode cX6_cleanedAt 31 = .ok (.invokevirtual 151, 3) := by decide +kernel
theorem dX6_cleanedAt_34 : decode cX6_cleanedAt 34 = .ok (.aload_n 0, 1) := by decide +kernel
theorem dX6_cleanedAt_35 : decode cX6_cleanedAt 35 = .ok (.iload_n 3, 1) := by decide +kernel
theorem dX6_cleanedAt_36 : decode cX6_cleanedAt 36 = .ok (.invokevirtual 154, 3) := by decide +kernel
theorem dX6_cleanedAt_39 : decode cX6_cleanedAt 39 = .ok (.iadd, 1) := by decide +kernel
theorem dX6_cleanedAt_40 : decode cX6_cleanedAt 40 = .ok (.iconst 1, 1) := by decide +kernel
theorem dX6_cleanedAt_41 : decode cX6_cleanedAt 41 = .ok (.isub, 1) := by decide +kernel
theorem dX6_cleanedAt_42 : decode cX6_cleanedAt 42 = .ok (.invokestatic 64, 3) := by decide +kernel
theorem dX6_cleanedAt_45 : decode cX6_cleanedAt 45 = .ok (.ifCond .eq 7, 3) := by decide +kernel
theorem dX6_cleanedAt_48 : decode cX6_cleanedAt 48 = .ok (.iconst 1, 1) := by decide +kernel
theorem dX6_cleanedAt_49 : decode cX6_cleanedAt 49 = .ok (.goto 4, 3) := by decide +kernel
theorem dX6_cleanedAt_52 : decode cX6_cleanedAt 52 = .ok (.iconst 0, 1) := by decide +kernel
theorem dX6_cleanedAt_53 : decode cX6_cleanedAt 53 = .ok (.iadd, 1) := by decide +kernel
theorem dX6_cleanedAt_54 : decode cX6_cleanedAt 54 = .ok (.istore_n 2, 1) := by decide +kernel
theorem dX6_cleanedAt_55 : decode cX6_cleanedAt 55 = .ok (.iinc 3 1, 3) := by decide +kernel
theorem dX6_cleanedAt_58 : decode cX6_cleanedAt 58 = .ok (.goto (-54), 3) := by decide +kernel
theorem dX6_cleanedAt_61 : decode cX6_cleanedAt 61 = .ok (.iload_n 2, 1) := by decide +kernel
theorem dX6_cleanedAt_62 : decode cX6_cleanedAt 62 = .ok (.ireturn, 1) := by decide +kernel
set_option maxRecDepth 20000 in
theorem ggX6_tooManyCleaned_X6_hallAt : GoodIn wsX6_tooManyCleaned wsX6_hallAt := goodIn_ca (goodIn_r _ [8, 3, 46, 47, 48, 49, 50, 51, 52, 53, 54, 55, 56, 57, 58, 59, 60, 61, 62, 63, 64, 65, 66, 67, 68, 69, 70, 71, 72] (by decide +kernel) (by decide +kernel)) (goodIn_sub (fun _ h => List.mem_cons_of_mem _ (List.mem_append_right _ h)) (by decide +kernel))
set_option maxRecDepth 20000 in
theorem gX6_tooManyCleaned_X6_hallAt : GoodIn wsX6_tooManyCleaned (wsV RX6 95 RX6 yX6_hallAt wsX6_hallAt) := goodIn_app (goodIn_of _ (by decide +kernel)) ggX6_tooManyCleaned_X6_hallAt
set_option maxRecDepth 20000 in
theorem ggX6_tooManyCleaned_X6_cleanedAt : GoodIn wsX6_tooManyCleaned wsX6_cleanedAt := goodIn_ca (goodIn_r _ [12, 3, 13, 14, 15, 7, 16, 17, 18, 19, 20, 21, 22, 23, 24, 25, 26, 27, 28, 29, 30, 31, 32, 33, 34, 35, 36, 37, 38, 39, 40, 41, 42, 4, 5, 6, 8, 43, 44, 45, 46, 47, 48, 49, 50, 51, 52, 53, 54, 55, 56, 57, 58, 59, 60, 61, 62, 63, 64, 65, 66, 67, 68, 69, 70, 71, 72] (by decide +kernel) (by decide +kernel)) (goodIn_sub (fun _ h => List.mem_cons_of_mem _ (List.mem_append_right _ h)) (by decide +kernel))
set_option maxRecDepth 20000 in
theorem gX6_tooManyCleaned_X6_cleanedAt : GoodIn wsX6_tooManyCleaned (wsV RX6 163 RX6 yX6_cleanedAt wsX6_cleanedAt) := goodIn_app (goodIn_of _ (by decide +kernel)) ggX6_tooManyCleaned_X6_cleanedAt
set_option maxRecDepth 20000 in
theorem ggX6_tooManyCleaned_X6_endOf : GoodIn wsX6_tooManyCleaned wsX6_endOf := goodIn_ca (goodIn_r _ [30, 23, 24, 25, 7, 26, 3, 31, 32, 33, 34, 35, 36, 37, 38, 46, 47, 48, 49, 50, 51, 52, 53, 54, 55, 56, 57, 58, 59, 60, 61, 62, 63, 64, 65, 66, 67, 68, 69, 70, 71, 72] (by decide +kernel) (by decide +kernel)) (goodIn_sub (fun _ h => List.mem_cons_of_mem _ (List.mem_append_right _ h)) (by decide +kernel))
set_option maxRecDepth 20000 in
theorem gX6_tooManyCleaned_X6_endOf : GoodIn wsX6_tooManyCleaned (wsV RX6 151 RX6 yX6_endOf wsX6_endOf) := goodIn_app (goodIn_of _ (by decide +kernel)) ggX6_tooManyCleaned_X6_endOf
set_option maxRecDepth 20000 in
theorem ggX6_tooManyCleaned_X6_isOther : GoodIn wsX6_tooManyCleaned wsX6_isOther := goodIn_ca (goodIn_r _ [16, 17, 18, 19, 20, 21, 7, 22, 23, 24, 25, 26, 3, 46, 47, 48, 49, 50, 51, 52, 53, 54, 55, 56, 57, 58, 59, 60, 61, 62, 63, 64, 65, 66, 67, 68, 69, 70, 71, 72] (by decide +kernel) (by decide +kernel)) (goodIn_sub (fun _ h => List.mem_cons_of_mem _ (List.mem_append_right _ h)) (by decide +kernel))
set_option maxRecDepth 20000 in
theorem gX6_tooManyCleaned_X6_isOther : GoodIn wsX6_tooManyCleaned (wsV RX6 145 RX6 yX6_isOther wsX6_isOther) := goodIn_app (goodIn_of _ (by decide +kernel)) ggX6_tooManyCleaned_X6_isOther
theorem dX6_tooManyCleaned_0 : decode cX6_tooManyCleaned 0 = .ok (.aload_n 0, 1) := by decide +kernel
theorem dX6_tooManyCleaned_1 : decode cX6_tooManyCleaned 1 = .ok (.aload_n 0, 1) := by decide +kernel
theorem dX6_tooManyCleaned_2 : decode cX6_tooManyCleaned 2 = .ok (.getfield 142, 3) := by decide +kernel
theorem dX6_tooManyCleaned_5 : decode cX6_tooManyCleaned 5 = .ok (.iconst 1, 1) := by decide +kernel
theorem dX6_tooManyCleaned_6 : decode cX6_tooManyCleaned 6 = .ok (.invokevirtual 95, 3) := by decide +kernel
theorem dX6_tooManyCleaned_9 : decode cX6_tooManyCleaned 9 = .ok (.istore_n 1, 1) := by decide +kernel
theorem dX6_tooManyCleaned_10 : decode cX6_tooManyCleaned 10 = .ok (.iload_n 1, 1) := by decide +kernel
theorem dX6_tooManyCleaned_11 : decode cX6_tooManyCleaned 11 = .ok (.ifCond .ne 5, 3) := by decide +kernel
theorem dX6_tooManyCleaned_14 : decode cX6_tooManyCleaned 14 = .ok (.iconst (-1), 1) := by decide +kernel
theorem dX6_tooManyCleaned_15 : decode cX6_tooManyCleaned 15 = .ok (.ireturn, 1) := by decide +kernel
theorem dX6_tooManyCleaned_16 : decode cX6_tooManyCleaned 16 = .ok (.aload_n 0, 1) := by decide +kernel
theorem dX6_tooManyCleaned_17 : decode cX6_tooManyCleaned 17 = .ok (.aload_n 0, 1) := by decide +kernel
theorem dX6_tooManyCleaned_18 : decode cX6_tooManyCleaned 18 = .ok (.getfield 139, 3) := by decide +kernel
theorem dX6_tooManyCleaned_21 : decode cX6_tooManyCleaned 21 = .ok (.invokevirtual 163, 3) := by decide +kernel
theorem dX6_tooManyCleaned_24 : decode cX6_tooManyCleaned 24 = .ok (.aload_n 0, 1) := by decide +kernel
theorem dX6_tooManyCleaned_25 : decode cX6_tooManyCleaned 25 = .ok (.getfield 9, 3) := by decide +kernel
theorem dX6_tooManyCleaned_28 : decode cX6_tooManyCleaned 28 = .ok (.bipush 9, 2) := by decide +kernel
theorem dX6_tooManyCleaned_30 : decode cX6_tooManyCleaned 30 = .ok (.iaload, 1) := by decide +kernel
theorem dX6_tooManyCleaned_31 : decode cX6_tooManyCleaned 31 = .ok (.if_icmp .le 10, 3) := by decide +kernel
theorem dX6_tooManyCleaned_34 : decode cX6_tooManyCleaned 34 = .ok (.aload_n 0, 1) := by decide +kernel
theorem dX6_tooManyCleaned_35 : decode cX6_tooManyCleaned 35 = .ok (.getfield 139, 3) := by decide +kernel
theorem dX6_tooManyCleaned_38 : decode cX6_tooManyCleaned 38 = .ok (.goto 4, 3) := by decide +kernel
theorem dX6_tooManyCleaned_41 : decode cX6_tooManyCleaned 41 = .ok (.iconst (-1), 1) := by decide +kernel
theorem dX6_tooManyCleaned_42 : decode cX6_tooManyCleaned 42 = .ok (.istore_n 2, 1) := by decide +kernel
theorem dX6_tooManyCleaned_43 : decode cX6_tooManyCleaned 43 = .ok (.iconst 0, 1) := by decide +kernel
theorem dX6_tooManyCleaned_44 : decode cX6_tooManyCleaned 44 = .ok (.istore_n 3, 1) := by decide +kernel
theorem dX6_tooManyCleaned_45 : decode cX6_tooManyCleaned 45 = .ok (.iload_n 3, 1) := by decide +kernel
theorem dX6_tooManyCleaned_46 : decode cX6_tooManyCleaned 46 = .ok (.aload_n 0, 1) := by decide +kernel
theorem dX6_tooManyCleaned_47 : decode cX6_tooManyCleaned 47 = .ok (.getfield 9, 3) := by decide +kernel
theorem dX6_tooManyCleaned_50 : decode cX6_tooManyCleaned 50 = .ok (.iconst 4, 1) := by decide +kernel
theorem dX6_tooManyCleaned_51 : decode cX6_tooManyCleaned 51 = .ok (.iaload, 1) := by decide +kernel
theorem dX6_tooManyCleaned_52 : decode cX6_tooManyCleaned 52 = .ok (.if_icmp .ge 74, 3) := by decide +kernel
theorem dX6_tooManyCleaned_55 : decode cX6_tooManyCleaned 55 = .ok (.aload_n 0, 1) := by decide +kernel
theorem dX6_tooManyCleaned_56 : decode cX6_tooManyCleaned 56 = .ok (.iload_n 3, 1) := by decide +kernel
theorem dX6_tooManyCleaned_57 : decode cX6_tooManyCleaned 57 = .ok (.invokevirtual 151, 3) := by decide +kernel
theorem dX6_tooManyCleaned_60 : decode cX6_tooManyCleaned 60 = .ok (.istore 4, 2) := by decide +kernel
theorem dX6_tooManyCleaned_62 : decode cX6_tooManyCleaned 62 = .ok (.aload_n 0, 1) := by decide +kernel
theorem dX6_tooManyCleaned_63 : decode cX6_tooManyCleaned 63 = .ok (.iload_n 3, 1) := by decide +kernel
theorem dX6_tooManyCleaned_64 : decode cX6_tooManyCleaned 64 = .ok (.invokevirtual 145, 3) := by decide +kernel
theorem dX6_tooManyCleaned_67 : decode cX6_tooManyCleaned 67 = .ok (.ifCond .eq 53, 3) := by decide +kernel
theorem dX6_tooManyCleaned_70 : decode cX6_tooManyCleaned 70 = .ok (.iload 4, 2) := by decide +kernel
theorem dX6_tooManyCleaned_72 : decode cX6_tooManyCleaned 72 = .ok (.aload_n 0, 1) := by decide +kernel
theorem dX6_tooManyCleaned_73 : decode cX6_tooManyCleaned 73 = .ok (.getfield 139, 3) := by decide +kernel
theorem dX6_tooManyCleaned_76 : decode cX6_tooManyCleaned 76 = .ok (.if_icmp .le 44, 3) := by decide +kernel
theorem dX6_tooManyCleaned_79 : decode cX6_tooManyCleaned 79 = .ok (.iload 4, 2) := by decide +kernel
theorem dX6_tooManyCleaned_81 : decode cX6_tooManyCleaned 81 = .ok (.aload_n 0, 1) := by decide +kernel
theorem dX6_tooManyCleaned_82 : decode cX6_tooManyCleaned 82 = .ok (.getfield 139, 3) := by decide +kernel
theorem dX6_tooManyCleaned_85 : decode cX6_tooManyCleaned 85 = .ok (.iload_n 1, 1) := by decide +kernel
theorem dX6_tooManyCleaned_86 : decode cX6_tooManyCleaned 86 = .ok (.iadd, 1) := by decide +kernel
theorem dX6_tooManyCleaned_87 : decode cX6_tooManyCleaned 87 = .ok (.if_icmp .ge 33, 3) := by decide +kernel
theorem dX6_tooManyCleaned_90 : decode cX6_tooManyCleaned 90 = .ok (.iload_n 2, 1) := by decide +kernel
theorem dX6_tooManyCleaned_91 : decode cX6_tooManyCleaned 91 = .ok (.iconst (-1), 1) := by decide +kernel
theorem dX6_tooManyCleaned_92 : decode cX6_tooManyCleaned 92 = .ok (.if_icmp .eq 9, 3) := by decide +kernel
theorem dX6_tooManyCleaned_95 : decode cX6_tooManyCleaned 95 = .ok (.iload 4, 2) := by decide +kernel
theorem dX6_tooManyCleaned_97 : decode cX6_tooManyCleaned 97 = .ok (.iload_n 2, 1) := by decide +kernel
theorem dX6_tooManyCleaned_98 : decode cX6_tooManyCleaned 98 = .ok (.if_icmp .ge 22, 3) := by decide +kernel
theorem dX6_tooManyCleaned_101 : decode cX6_tooManyCleaned 101 = .ok (.aload_n 0, 1) := by decide +kernel
theorem dX6_tooManyCleaned_102 : decode cX6_tooManyCleaned 102 = .ok (.iload 4, 2) := by decide +kernel
theorem dX6_tooManyCleaned_104 : decode cX6_tooManyCleaned 104 = .ok (.invokevirtual 163, 3) := by decide +kernel
theorem dX6_tooManyCleaned_107 : decode cX6_tooManyCleaned 107 = .ok (.aload_n 0, 1) := by decide +kernel
theorem dX6_tooManyCleaned_108 : decode cX6_tooManyCleaned 108 = .ok (.getfield 9, 3) := by decide +kernel
theorem dX6_tooManyCleaned_111 : decode cX6_tooManyCleaned 111 = .ok (.bipush 9, 2) := by decide +kernel
theorem dX6_tooManyCleaned_113 : decode cX6_tooManyCleaned 113 = .ok (.iaload, 1) := by decide +kernel
theorem dX6_tooManyCleaned_114 : decode cX6_tooManyCleaned 114 = .ok (.if_icmp .le 6, 3) := by decide +kernel
theorem dX6_tooManyCleaned_117 : decode cX6_tooManyCleaned 117 = .ok (.iload 4, 2) := by decide +kernel
theorem dX6_tooManyCleaned_119 : decode cX6_tooManyCleaned 119 = .ok (.istore_n 2, 1) := by decide +kernel
theorem dX6_tooManyCleaned_120 : decode cX6_tooManyCleaned 120 = .ok (.iinc 3 1, 3) := by decide +kernel
theorem dX6_tooManyCleaned_123 : decode cX6_tooManyCleaned 123 = .ok (.goto (-78), 3) := by decide +kernel
theorem dX6_tooManyCleaned_126 : decode cX6_tooManyCleaned 126 = .ok (.iload_n 2, 1) := by decide +kernel
theorem dX6_tooManyCleaned_127 : decode cX6_tooManyCleaned 127 = .ok (.ireturn, 1) := by decide +kernel
set_option maxRecDepth 20000 in
theorem ggX6_isClosed_X6_hallAt : GoodIn wsX6_isClosed wsX6_hallAt := goodIn_ca (goodIn_r _ [5, 6, 7, 8, 9, 10, 11, 12, 13, 14, 15, 16, 17, 18, 19, 20, 21, 22, 23, 24, 25, 26, 27, 28, 29, 30, 31, 32, 33] (by decide +kernel) (by decide +kernel)) (goodIn_sub (fun _ h => List.mem_cons_of_mem _ (List.mem_append_right _ h)) (by decide +kernel))
set_option maxRecDepth 20000 in
theorem gX6_isClosed_X6_hallAt : GoodIn wsX6_isClosed (wsV RX6 95 RX6 yX6_hallAt wsX6_hallAt) := goodIn_app (goodIn_of _ (by decide +kernel)) ggX6_isClosed_X6_hallAt
theorem dX6_isClosed_0 : decode cX6_isClosed 0 = .ok (.aload_n 0, 1) := by decide +kernel
theorem dX6_isClosed_1 : decode cX6_isClosed 1 = .ok (.iload_n 1, 1) := by decide +kernel
theorem dX6_isClosed_2 : decode cX6_isClosed 2 = .ok (.iconst 3, 1) := by decide +kernel
theorem dX6_isClosed_3 : decode cX6_isClosed 3 = .ok (.invokevirtual 95, 3) := by decide +kernel
theorem dX6_isClosed_6 : decode cX6_isClosed 6 = .ok (.iconst (-1), 1) := by decide +kernel
theorem dX6_isClosed_7 : decode cX6_isClosed 7 = .ok (.if_icmp .eq 17, 3) := by decide +kernel
theorem dX6_isClosed_10 : decode cX6_isClosed 10 = .ok (.iload_n 2, 1) := by decide +kernel
theorem dX6_isClosed_11 : decode cX6_isClosed 11 = .ok (.aload_n 0, 1) := by decide +kernel
theorem dX6_isClosed_12 : decode cX6_isClosed 12 = .ok (.iload_n 1, 1) := by decide +kernel
theorem dX6_isClosed_13 : decode cX6_isClosed 13 = .ok (.iconst 3, 1) := by decide +kernel
theorem dX6_isClosed_14 : decode cX6_isClosed 14 = .ok (.invokevirtual 95, 3) := by decide +kernel
theorem dX6_isClosed_17 : decode cX6_isClosed 17 = .ok (.if_icmp .lt 7, 3) := by decide +kernel
theorem dX6_isClosed_20 : decode cX6_isClosed 20 = .ok (.iconst 1, 1) := by decide +kernel
theorem dX6_isClosed_21 : decode cX6_isClosed 21 = .ok (.goto 4, 3) := by decide +kernel
theorem dX6_isClosed_24 : decode cX6_isClosed 24 = .ok (.iconst 0, 1) := by decide +kernel
theorem dX6_isClosed_25 : decode cX6_isClosed 25 = .ok (.ireturn, 1) := by decide +kernel
theorem dX6_broken_0 : decode cX6_broken 0 = .ok (.aload_n 0, 1) := by decide +kernel
theorem dX6_broken_1 : decode cX6_broken 1 = .ok (.iload_n 2, 1) := by decide +kernel
theorem dX6_broken_2 : decode cX6_broken 2 = .ok (.putfield 166, 3) := by decide +kernel
theorem dX6_broken_5 : decode cX6_broken 5 = .ok (.iload_n 1, 1) := by decide +kernel
theorem dX6_broken_6 : decode cX6_broken 6 = .ok (.ireturn, 1) := by decide +kernel
set_option maxRecDepth 20000 in
theorem ggX6_breaks_X6_broken : GoodIn wsX6_breaks wsX6_broken := goodIn_r _ [12, 13, 77, 78, 79, 80, 81, 82, 83, 84, 85, 86, 87, 88, 89, 90, 91, 92, 93, 94, 95, 96, 97, 98, 99, 100, 101, 102, 103] (by decide +kernel) (by decide +kernel)
set_option maxRecDepth 20000 in
theorem gX6_breaks_X6_broken : GoodIn wsX6_breaks (wsV RX6 169 RX6 yX6_broken wsX6_broken) := goodIn_app (goodIn_of _ (by decide +kernel)) ggX6_breaks_X6_broken
set_option maxRecDepth 20000 in
theorem ggX6_breaks_X6_isClosed : GoodIn wsX6_breaks wsX6_isClosed := goodIn_ca (goodIn_r _ [17, 18, 19, 20, 11, 21, 7, 77, 78, 79, 80, 81, 82, 83, 84, 85, 86, 87, 88, 89, 90, 91, 92, 93, 94, 95, 96, 97, 98, 99, 100, 101, 102, 103] (by decide +kernel) (by decide +kernel)) (goodIn_sub (fun _ h => List.mem_cons_of_mem _ (List.mem_append_right _ h)) (by decide +kernel))
set_option maxRecDepth 20000 in
theorem gX6_breaks_X6_isClosed : GoodIn wsX6_breaks (wsV RX6 172 RX6 yX6_isClosed wsX6_isClosed) := goodIn_app (goodIn_of _ (by decide +kernel)) ggX6_breaks_X6_isClosed
set_option maxRecDepth 20000 in
theorem ggX6_breaks_X6_filmAt : GoodIn wsX6_breaks wsX6_filmAt := goodIn_ca (goodIn_r _ [25, 7, 77, 78, 79, 80, 81, 82, 83, 84, 85, 86, 87, 88, 89, 90, 91, 92, 93, 94, 95, 96, 97, 98, 99, 100, 101, 102, 103] (by decide +kernel) (by decide +kernel)) (goodIn_sub (fun _ h => List.mem_cons_of_mem _ (List.mem_append_right _ h)) (by decide +kernel))
set_option maxRecDepth 20000 in
theorem gX6_breaks_X6_filmAt : GoodIn wsX6_breaks (wsV RX6 81 RX6 yX6_filmAt wsX6_filmAt) := goodIn_app (goodIn_of _ (by decide +kernel)) ggX6_breaks_X6_filmAt
set_option maxRecDepth 20000 in
theorem ggX6_breaks_X6_meetsInHall : GoodIn wsX6_breaks wsX6_meetsInHall := goodIn_ca (goodIn_r _ [29, 5, 1, 7, 4, 18, 19, 20, 11, 21, 30, 31, 32, 33, 6, 3, 34, 35, 36, 37, 38, 39, 40, 41, 42, 43, 44, 45, 46, 47, 48, 49, 22, 23, 24, 25, 50, 51, 52, 53, 77, 78, 79, 80, 81, 82, 83, 84, 85, 86, 87, 88, 89, 90, 91, 92, 93, 94, 95, 96, 97, 98, 99, 100, 101, 102, 103] (by decide +kernel) (by decide +kernel)) (goodIn_sub (fun _ h => List.mem_cons_of_mem _ (List.mem_append_right _ h)) (by decide +kernel))
set_option maxRecDepth 20000 in
theorem gX6_breaks_X6_meetsInHall : GoodIn wsX6_breaks (wsV RX6 175 RX6 yX6_meetsInHall wsX6_meetsInHall) := goodIn_app (goodIn_of _ (by decide +kernel)) ggX6_breaks_X6_meetsInHall
set_option maxRecDepth 20000 in
theorem ggX6_breaks_X6_tooManyCopies : GoodIn wsX6_breaks wsX6_tooManyCopies := goodIn_ca (goodIn_r _ [57, 5, 7, 4, 2, 58, 59, 60, 11, 61, 30, 31, 32, 33, 6, 3, 34, 35, 36, 37, 38, 39, 40, 41, 42, 43, 44, 45, 46, 47, 48, 49, 22, 23, 24, 25, 62, 63, 64, 77, 78, 79, 80, 81, 82, 83, 84, 85, 86, 87, 88, 89, 90, 91, 92, 93, 94, 95, 96, 97, 98, 99, 100, 101, 102, 103] (by decide +kernel) (by decide +kernel)) (goodIn_sub (fun _ h => List.mem_cons_of_mem _ (List.mem_append_right _ h)) (by decide +kernel))
set_option maxRecDepth 20000 in
theorem gX6_breaks_X6_tooManyCopies : GoodIn wsX6_breaks (wsV RX6 179 RX6 yX6_tooManyCopies wsX6_tooManyCopies) := goodIn_app (goodIn_of _ (by decide +kernel)) ggX6_breaks_X6_tooManyCopies
set_option maxRecDepth 20000 in
theorem ggX6_breaks_X6_meetsAtExit : GoodIn wsX6_breaks wsX6_meetsAtExit := goodIn_ca (goodIn_r _ [68, 7, 5, 1, 42, 43, 44, 11, 45, 38, 39, 40, 41, 46, 47, 48, 49, 22, 23, 24, 25, 30, 31, 32, 33, 6, 3, 34, 35, 36, 37, 18, 19, 20, 21, 77, 78, 79, 80, 81, 82, 83, 84, 85, 86, 87, 88, 89, 90, 91, 92, 93, 94, 95, 96, 97, 98, 99, 100, 101, 102, 103] (by decide +kernel) (by decide +kernel)) (goodIn_sub (fun _ h => List.mem_cons_of_mem _ (List.mem_append_right _ h)) (by decide +kernel))
set_option maxRecDepth 20000 in
theorem gX6_breaks_X6_meetsAtExit : GoodIn wsX6_breaks (wsV RX6 182 RX6 yX6_meetsAtExit wsX6_meetsAtExit) := goodIn_app (goodIn_of _ (by decide +kernel)) ggX6_breaks_X6_meetsAtExit
set_option maxRecDepth 20000 in
theorem ggX6_breaks_X6_tooManyCleaned : GoodIn wsX6_breaks wsX6_tooManyCleaned := goodIn_ca (goodIn_r _ [72, 1, 5, 7, 18, 19, 20, 11, 21, 73, 74, 75, 76, 30, 31, 32, 33, 6, 3, 34, 35, 36, 37, 38, 39, 40, 41, 42, 43, 44, 45, 46, 47, 48, 49, 22, 23, 24, 25, 50, 51, 52, 53, 62, 63, 64, 77, 78, 79, 80, 81, 82, 83, 84, 85, 86, 87, 88, 89, 90, 91, 92, 93, 94, 95, 96, 97, 98, 99, 100, 101, 102, 103] (by decide +kernel) (by decide +kernel)) (goodIn_sub (fun _ h => List.mem_cons_of_mem _ (List.mem_append_right _ h)) (by decide +kernel))
set_option maxRecDepth 20000 in
theorem gX6_breaks_X6_tooManyCleaned : GoodIn wsX6_breaks (wsV RX6 185 RX6 yX6_tooManyCleaned wsX6_tooManyCleaned) := goodIn_app (goodIn_of _ (by decide +kernel)) ggX6_breaks_X6_tooManyCleaned
theorem dX6_breaks_0 : decode cX6_breaks 0 = .ok (.aload_n 0, 1) := by decide +kernel
theorem dX6_breaks_1 : decode cX6_breaks 1 = .ok (.iload_n 1, 1) := by decide +kernel
theorem dX6_breaks_2 : decode cX6_breaks 2 = .ok (.putfield 142, 3) := by decide +kernel
theorem dX6_breaks_5 : decode cX6_breaks 5 = .ok (.aload_n 0, 1) := by decide +kernel
theorem dX6_breaks_6 : decode cX6_breaks 6 = .ok (.iload_n 2, 1) := by decide +kernel
theorem dX6_breaks_7 : decode cX6_breaks 7 = .ok (.putfield 157, 3) := by decide +kernel
theorem dX6_breaks_10 : decode cX6_breaks 10 = .ok (.aload_n 0, 1) := by decide +kernel
theorem dX6_breaks_11 : decode cX6_breaks 11 = .ok (.iload_n 3, 1) := by decide +kernel
theorem dX6_breaks_12 : decode cX6_breaks 12 = .ok (.putfield 136, 3) := by decide +kernel
theorem dX6_breaks_15 : decode cX6_breaks 15 = .ok (.aload_n 0, 1) := by decide +kernel
theorem dX6_breaks_16 : decode cX6_breaks 16 = .ok (.iload 4, 2) := by decide +kernel
theorem dX6_breaks_18 : decode cX6_breaks 18 = .ok (.putfield 148, 3) := by decide +kernel
theorem dX6_breaks_21 : decode cX6_breaks 21 = .ok (.aload_n 0, 1) := by decide +kernel
theorem dX6_breaks_22 : decode cX6_breaks 22 = .ok (.iload 4, 2) := by decide +kernel
theorem dX6_breaks_24 : decode cX6_breaks 24 = .ok (.iload 5, 2) := by decide +kernel
theorem dX6_breaks_26 : decode cX6_breaks 26 = .ok (.iadd, 1) := by decide +kernel
theorem dX6_breaks_27 : decode cX6_breaks 27 = .ok (.putfield 139, 3) := by decide +kernel
theorem dX6_breaks_30 : decode cX6_breaks 30 = .ok (.aload_n 0, 1) := by decide +kernel
theorem dX6_breaks_31 : decode cX6_breaks 31 = .ok (.iload 6, 2) := by decide +kernel
theorem dX6_breaks_33 : decode cX6_breaks 33 = .ok (.putfield 133, 3) := by decide +kernel
theorem dX6_breaks_36 : decode cX6_breaks 36 = .ok (.iload_n 3, 1) := by decide +kernel
theorem dX6_breaks_37 : decode cX6_breaks 37 = .ok (.aload_n 0, 1) := by decide +kernel
theorem dX6_breaks_38 : decode cX6_breaks 38 = .ok (.getfield 9, 3) := by decide +kernel
theorem dX6_breaks_41 : decode cX6_breaks 41 = .ok (.iconst 0, 1) := by decide +kernel
theorem dX6_breaks_42 : decode cX6_breaks 42 = .ok (.iaload, 1) := by decide +kernel
theorem dX6_breaks_43 : decode cX6_breaks 43 = .ok (.if_icmp .ge 15, 3) := by decide +kernel
theorem dX6_breaks_46 : decode cX6_breaks 46 = .ok (.aload_n 0, 1) := by decide +kernel
theorem dX6_breaks_47 : decode cX6_breaks 47 = .ok (.iconst 1, 1) := by decide +kernel
theorem dX6_breaks_48 : decode cX6_breaks 48 = .ok (.aload_n 0, 1) := by decide +kernel
theorem dX6_breaks_49 : decode cX6_breaks 49 = .ok (.getfield 9, 3) := by decide +kernel
theorem dX6_breaks_52 : decode cX6_breaks 52 = .ok (.iconst 0, 1) := by decide +kernel
theorem dX6_breaks_53 : decode cX6_breaks 53 = .ok (.iaload, 1) := by decide +kernel
theorem dX6_breaks_54 : decode cX6_breaks 54 = .ok (.invokevirtual 169, 3) := by decide +kernel
theorem dX6_breaks_57 : decode cX6_breaks 57 = .ok (.ireturn, 1) := by decide +kernel
theorem dX6_breaks_58 : decode cX6_breaks 58 = .ok (.aload_n 0, 1) := by decide +kernel
theorem dX6_breaks_59 : decode cX6_breaks 59 = .ok (.iload_n 1, 1) := by decide +kernel
theorem dX6_breaks_60 : decode cX6_breaks 60 = .ok (.iload_n 3, 1) := by decide +kernel
theorem dX6_breaks_61 : decode cX6_breaks 61 = .ok (.invokevirtual 172, 3) := by decide +kernel
theorem dX6_breaks_64 : decode cX6_breaks 64 = .ok (.ifCond .eq 10, 3) := by decide +kernel
theorem dX6_breaks_67 : decode cX6_breaks 67 = .ok (.aload_n 0, 1) := by decide +kernel
theorem dX6_breaks_68 : decode cX6_breaks 68 = .ok (.iconst 2, 1) := by decide +kernel
theorem dX6_breaks_69 : decode cX6_breaks 69 = .ok (.iload_n 1, 1) := by decide +kernel
theorem dX6_breaks_70 : decode cX6_breaks 70 = .ok (.invokevirtual 169, 3) := by decide +kernel
theorem dX6_breaks_73 : decode cX6_breaks 73 = .ok (.ireturn, 1) := by decide +kernel
theorem dX6_breaks_74 : decode cX6_breaks 74 = .ok (.iload_n 3, 1) := by decide +kernel
theorem dX6_breaks_75 : decode cX6_breaks 75 = .ok (.aload_n 0, 1) := by decide +kernel
theorem dX6_breaks_76 : decode cX6_breaks 76 = .ok (.iload_n 2, 1) := by decide +kernel
theorem dX6_breaks_77 : decode cX6_breaks 77 = .ok (.iconst 4, 1) := by decide +kernel
theorem dX6_breaks_78 : decode cX6_breaks 78 = .ok (.invokevirtual 81, 3) := by decide +kernel
theorem dX6_breaks_81 : decode cX6_breaks 81 = .ok (.if_icmp .ge 15, 3) := by decide +kernel
theorem dX6_breaks_84 : decode cX6_breaks 84 = .ok (.aload_n 0, 1) := by decide +kernel
theorem dX6_breaks_85 : decode cX6_breaks 85 = .ok (.iconst 3, 1) := by decide +kernel
theorem dX6_breaks_86 : decode cX6_breaks 86 = .ok (.aload_n 0, 1) := by decide +kernel
theorem dX6_breaks_87 : decode cX6_breaks 87 = .ok (.iload_n 2, 1) := by decide +kernel
theorem dX6_breaks_88 : decode cX6_breaks 88 = .ok (.iconst 4, 1) := by decide +kernel
theorem dX6_breaks_89 : decode cX6_breaks 89 = .ok (.invokevirtual 81, 3) := by decide +kernel
theorem dX6_breaks_92 : decode cX6_breaks 92 = .ok (.invokevirtual 169, 3) := by decide +kernel
theorem dX6_breaks_95 : decode cX6_breaks 95 = .ok (.ireturn, 1) := by decide +kernel
theorem dX6_breaks_96 : decode cX6_breaks 96 = .ok (.aload_n 0, 1) := by decide +kernel
theorem dX6_breaks_97 : decode cX6_breaks 97 = .ok (.iload_n 2, 1) := by decide +kernel
theorem dX6_breaks_98 : decode cX6_breaks 98 = .ok (.iconst 1, 1) := by decide +kernel
theorem dX6_breaks_99 : decode cX6_breaks 99 = .ok (.invokevirtual 81, 3) := by decide +kernel
theorem dX6_breaks_102 : decode cX6_breaks 102 = .ok (.aload_n 0, 1) := by decide +kernel
theorem dX6_breaks_103 : decode cX6_breaks 103 = .ok (.getfield 9, 3) := by decide +kernel
theorem dX6_breaks_106 : decode cX6_breaks 106 = .ok (.bipush 14, 2) := by decide +kernel
theorem dX6_breaks_108 : decode cX6_breaks 108 = .ok (.iload 4, 2) := by decide +kernel
theorem dX6_breaks_110 : decode cX6_breaks 110 = .ok (.bipush 60, 2) := by decide +kernel
theorem dX6_breaks_112 : decode cX6_breaks 112 = .ok (.idiv, 1) := by decide +kernel
theorem dX6_breaks_113 : decode cX6_breaks 113 = .ok (.iadd, 1) := by decide +kernel
theorem dX6_breaks_114 : decode cX6_breaks 114 = .ok (.iaload, 1) := by decide +kernel
theorem dX6_breaks_115 : decode cX6_breaks 115 = .ok (.if_icmp .le 22, 3) := by decide +kernel
theorem dX6_breaks_118 : decode cX6_breaks 118 = .ok (.aload_n 0, 1) := by decide +kernel
theorem dX6_breaks_119 : decode cX6_breaks 119 = .ok (.iconst 4, 1) := by decide +kernel
theorem dX6_breaks_120 : decode cX6_breaks 120 = .ok (.aload_n 0, 1) := by decide +kernel
theorem dX6_breaks_121 : decode cX6_breaks 121 = .ok (.getfield 9, 3) := by decide +kernel
theorem dX6_breaks_124 : decode cX6_breaks 124 = .ok (.bipush 14, 2) := by decide +kernel
theorem dX6_breaks_126 : decode cX6_breaks 126 = .ok (.iload 4, 2) := by decide +kernel
theorem dX6_breaks_128 : decode cX6_breaks 128 = .ok (.bipush 60, 2) := by decide +kernel
theorem dX6_breaks_130 : decode cX6_breaks 130 = .ok (.idiv, 1) := by decide +kernel
theorem dX6_breaks_131 : decode cX6_breaks 131 = .ok (.iadd, 1) := by decide +kernel
theorem dX6_breaks_132 : decode cX6_breaks 132 = .ok (.iaload, 1) := by decide +kernel
theorem dX6_breaks_133 : decode cX6_breaks 133 = .ok (.invokevirtual 169, 3) := by decide +kernel
theorem dX6_breaks_136 : decode cX6_breaks 136 = .ok (.ireturn, 1) := by decide +kernel
theorem dX6_breaks_137 : decode cX6_breaks 137 = .ok (.aload_n 0, 1) := by decide +kernel
theorem dX6_breaks_138 : decode cX6_breaks 138 = .ok (.getfield 139, 3) := by decide +kernel
theorem dX6_breaks_141 : decode cX6_breaks 141 = .ok (.sipush 960, 3) := by decide +kernel
theorem dX6_breaks_144 : decode cX6_breaks 144 = .ok (.if_icmp .le 13, 3) := by decide +kernel
theorem dX6_breaks_147 : decode cX6_breaks 147 = .ok (.aload_n 0, 1) := by decide +kernel
theorem dX6_breaks_148 : decode cX6_breaks 148 = .ok (.iconst 5, 1) := by decide +kernel
theorem dX6_breaks_149 : decode cX6_breaks 149 = .ok (.aload_n 0, 1) := by decide +kernel
theorem dX6_breaks_150 : decode cX6_breaks 150 = .ok (.getfield 139, 3) := by decide +kernel
theorem dX6_breaks_153 : decode cX6_breaks 153 = .ok (.invokevirtual 169, 3) := by decide +kernel
theorem dX6_breaks_156 : decode cX6_breaks 156 = .ok (.ireturn, 1) := by decide +kernel
theorem dX6_breaks_157 : decode cX6_breaks 157 = .ok (.aload_n 0, 1) := by decide +kernel
theorem dX6_breaks_158 : decode cX6_breaks 158 = .ok (.invokevirtual 175, 3) := by decide +kernel
theorem dX6_breaks_161 : decode cX6_breaks 161 = .ok (.istore 7, 2) := by decide +kernel
theorem dX6_breaks_163 : decode cX6_breaks 163 = .ok (.iload 7, 2) := by decide +kernel
theorem dX6_breaks_165 : decode cX6_breaks 165 = .ok (.iconst (-1), 1) := by decide +kernel
theorem dX6_breaks_166 : decode cX6_breaks 166 = .ok (.if_icmp .eq 12, 3) := by decide +kernel
theorem dX6_breaks_169 : decode cX6_breaks 169 = .ok (.aload_n 0, 1) := by decide +kernel
theorem dX6_breaks_170 : decode cX6_breaks 170 = .ok (.bipush 6, 2) := by decide +kernel
theorem dX6_breaks_172 : decode cX6_breaks 172 = .ok (.iload 7, 2) := by decide +kernel
theorem dX6_breaks_174 : decode cX6_breaks 174 = .ok (.invokevirtual 169, 3) := by decide +kernel
theorem dX6_breaks_177 : decode cX6_breaks 177 = .ok (.ireturn, 1) := by decide +kernel
theorem dX6_breaks_178 : decode cX6_breaks 178 = .ok (.aload_n 0, 1) := by decide +kernel
theorem dX6_breaks_179 : decode cX6_breaks 179 = .ok (.invokevirtual 179, 3) := by decide +kernel
theorem dX6_breaks_182 : decode cX6_breaks 182 = .ok (.istore 8, 2) := by decide +kernel
theorem dX6_breaks_184 : decode cX6_breaks 184 = .ok (.iload 8, 2) := by decide +kernel
theorem dX6_breaks_186 : decode cX6_breaks 186 = .ok (.iconst (-1), 1) := by decide +kernel
theorem dX6_breaks_187 : decode cX6_breaks 187 = .ok (.if_icmp .eq 12, 3) := by decide +kernel
theorem dX6_breaks_190 : decode cX6_breaks 190 = .ok (.aload_n 0, 1) := by decide +kernel
theorem dX6_breaks_191 : decode cX6_breaks 191 = .ok (.bipush 7, 2) := by decide +kernel
theorem dX6_breaks_193 : decode cX6_breaks 193 = .ok (.iload 8, 2) := by decide +kernel
theorem dX6_breaks_195 : decode cX6_breaks 195 = .ok (.invokevirtual 169, 3) := by decide +kernel
theorem dX6_breaks_198 : decode cX6_breaks 198 = .ok (.ireturn, 1) := by decide +kernel
theorem dX6_breaks_199 : decode cX6_breaks 199 = .ok (.aload_n 0, 1) := by decide +kernel
theorem dX6_breaks_200 : decode cX6_breaks 200 = .ok (.invokevirtual 182, 3) := by decide +kernel
theorem dX6_breaks_203 : decode cX6_breaks 203 = .ok (.istore 9, 2) := by decide +kernel
theorem dX6_breaks_205 : decode cX6_breaks 205 = .ok (.iload 9, 2) := by decide +kernel
theorem dX6_breaks_207 : decode cX6_breaks 207 = .ok (.iconst (-1), 1) := by decide +kernel
theorem dX6_breaks_208 : decode cX6_breaks 208 = .ok (.if_icmp .eq 12, 3) := by decide +kernel
