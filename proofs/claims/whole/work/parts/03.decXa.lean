/-! decode rows -/
theorem dX0_init_0 : decode cX0_init 0 = .ok (.aload_n 0, 1) := by decide +kernel
theorem dX0_init_1 : decode cX0_init 1 = .ok (.invokespecial 3, 3) := by decide +kernel
theorem dX0_init_4 : decode cX0_init 4 = .ok (.aload_n 0, 1) := by decide +kernel
theorem dX0_init_5 : decode cX0_init 5 = .ok (.bipush 9, 2) := by decide +kernel
theorem dX0_init_7 : decode cX0_init 7 = .ok (.anewarray 9, 3) := by decide +kernel
theorem dX0_init_10 : decode cX0_init 10 = .ok (.putfield 11, 3) := by decide +kernel
theorem dX0_init_13 : decode cX0_init 13 = .ok (.aload_n 0, 1) := by decide +kernel
theorem dX0_init_14 : decode cX0_init 14 = .ok (.iconst 0, 1) := by decide +kernel
theorem dX0_init_15 : decode cX0_init 15 = .ok (.putfield 17, 3) := by decide +kernel
theorem dX0_init_18 : decode cX0_init 18 = .ok (.aload_n 0, 1) := by decide +kernel
theorem dX0_init_19 : decode cX0_init 19 = .ok (.iconst 0, 1) := by decide +kernel
theorem dX0_init_20 : decode cX0_init 20 = .ok (.putfield 21, 3) := by decide +kernel
theorem dX0_init_23 : decode cX0_init 23 = .ok (.iconst 0, 1) := by decide +kernel
theorem dX0_init_24 : decode cX0_init 24 = .ok (.istore_n 1, 1) := by decide +kernel
theorem dX0_init_25 : decode cX0_init 25 = .ok (.iload_n 1, 1) := by decide +kernel
theorem dX0_init_26 : decode cX0_init 26 = .ok (.aload_n 0, 1) := by decide +kernel
theorem dX0_init_27 : decode cX0_init 27 = .ok (.getfield 11, 3) := by decide +kernel
theorem dX0_init_30 : decode cX0_init 30 = .ok (.arraylength, 1) := by decide +kernel
theorem dX0_init_31 : decode cX0_init 31 = .ok (.if_icmp .ge 22, 3) := by decide +kernel
theorem dX0_init_34 : decode cX0_init 34 = .ok (.aload_n 0, 1) := by decide +kernel
theorem dX0_init_35 : decode cX0_init 35 = .ok (.getfield 11, 3) := by decide +kernel
theorem dX0_init_38 : decode cX0_init 38 = .ok (.iload_n 1, 1) := by decide +kernel
theorem dX0_init_39 : decode cX0_init 39 = .ok (.new 9, 3) := by decide +kernel
theorem dX0_init_42 : decode cX0_init 42 = .ok (.dup, 1) := by decide +kernel
theorem dX0_init_43 : decode cX0_init 43 = .ok (.invokespecial 24, 3) := by decide +kernel
theorem dX0_init_46 : decode cX0_init 46 = .ok (.aastore, 1) := by decide +kernel
theorem dX0_init_47 : decode cX0_init 47 = .ok (.iinc 1 1, 3) := by decide +kernel
theorem dX0_init_50 : decode cX0_init 50 = .ok (.goto (-25), 3) := by decide +kernel
theorem dX0_init_53 : decode cX0_init 53 = .ok (.return_, 1) := by decide +kernel
theorem dX0_keep_0 : decode cX0_keep 0 = .ok (.aload_n 0, 1) := by decide +kernel
theorem dX0_keep_1 : decode cX0_keep 1 = .ok (.aload_n 1, 1) := by decide +kernel
theorem dX0_keep_2 : decode cX0_keep 2 = .ok (.invokevirtual 25, 3) := by decide +kernel
theorem dX0_keep_5 : decode cX0_keep 5 = .ok (.aload_n 0, 1) := by decide +kernel
theorem dX0_keep_6 : decode cX0_keep 6 = .ok (.invokevirtual 29, 3) := by decide +kernel
theorem dX0_keep_9 : decode cX0_keep 9 = .ok (.return_, 1) := by decide +kernel
theorem dX0_keepSpare_0 : decode cX0_keepSpare 0 = .ok (.aload_n 0, 1) := by decide +kernel
theorem dX0_keepSpare_1 : decode cX0_keepSpare 1 = .ok (.getfield 17, 3) := by decide +kernel
theorem dX0_keepSpare_4 : decode cX0_keepSpare 4 = .ok (.ifCond .lt 27, 3) := by decide +kernel
theorem dX0_keepSpare_7 : decode cX0_keepSpare 7 = .ok (.aload_n 0, 1) := by decide +kernel
theorem dX0_keepSpare_8 : decode cX0_keepSpare 8 = .ok (.getfield 17, 3) := by decide +kernel
theorem dX0_keepSpare_11 : decode cX0_keepSpare 11 = .ok (.aload_n 0, 1) := by decide +kernel
theorem dX0_keepSpare_12 : decode cX0_keepSpare 12 = .ok (.getfield 11, 3) := by decide +kernel
theorem dX0_keepSpare_15 : decode cX0_keepSpare 15 = .ok (.arraylength, 1) := by decide +kernel
theorem dX0_keepSpare_16 : decode cX0_keepSpare 16 = .ok (.if_icmp .ge 15, 3) := by decide +kernel
theorem dX0_keepSpare_19 : decode cX0_keepSpare 19 = .ok (.aload_n 0, 1) := by decide +kernel
theorem dX0_keepSpare_20 : decode cX0_keepSpare 20 = .ok (.getfield 11, 3) := by decide +kernel
theorem dX0_keepSpare_23 : decode cX0_keepSpare 23 = .ok (.aload_n 0, 1) := by decide +kernel
theorem dX0_keepSpare_24 : decode cX0_keepSpare 24 = .ok (.getfield 17, 3) := by decide +kernel
theorem dX0_keepSpare_27 : decode cX0_keepSpare 27 = .ok (.aaload, 1) := by decide +kernel
theorem dX0_keepSpare_28 : decode cX0_keepSpare 28 = .ok (.goto 4, 3) := by decide +kernel
theorem dX0_keepSpare_31 : decode cX0_keepSpare 31 = .ok (.aconst_null, 1) := by decide +kernel
theorem dX0_keepSpare_32 : decode cX0_keepSpare 32 = .ok (.astore_n 2, 1) := by decide +kernel
theorem dX0_keepSpare_33 : decode cX0_keepSpare 33 = .ok (.aload_n 2, 1) := by decide +kernel
theorem dX0_keepSpare_34 : decode cX0_keepSpare 34 = .ok (.ifnull 8, 3) := by decide +kernel
theorem dX0_keepSpare_37 : decode cX0_keepSpare 37 = .ok (.aload_n 2, 1) := by decide +kernel
theorem dX0_keepSpare_38 : decode cX0_keepSpare 38 = .ok (.aload_n 1, 1) := by decide +kernel
theorem dX0_keepSpare_39 : decode cX0_keepSpare 39 = .ok (.invokevirtual 32, 3) := by decide +kernel
theorem dX0_keepSpare_42 : decode cX0_keepSpare 42 = .ok (.return_, 1) := by decide +kernel
theorem dX0_bringSpareBack_0 : decode cX0_bringSpareBack 0 = .ok (.aload_n 0, 1) := by decide +kernel
theorem dX0_bringSpareBack_1 : decode cX0_bringSpareBack 1 = .ok (.getfield 17, 3) := by decide +kernel
theorem dX0_bringSpareBack_4 : decode cX0_bringSpareBack 4 = .ok (.ifCond .lt 27, 3) := by decide +kernel
theorem dX0_bringSpareBack_7 : decode cX0_bringSpareBack 7 = .ok (.aload_n 0, 1) := by decide +kernel
theorem dX0_bringSpareBack_8 : decode cX0_bringSpareBack 8 = .ok (.getfield 17, 3) := by decide +kernel
theorem dX0_bringSpareBack_11 : decode cX0_bringSpareBack 11 = .ok (.aload_n 0, 1) := by decide +kernel
theorem dX0_bringSpareBack_12 : decode cX0_bringSpareBack 12 = .ok (.getfield 11, 3) := by decide +kernel
theorem dX0_bringSpareBack_15 : decode cX0_bringSpareBack 15 = .ok (.arraylength, 1) := by decide +kernel
theorem dX0_bringSpareBack_16 : decode cX0_bringSpareBack 16 = .ok (.if_icmp .ge 15, 3) := by decide +kernel
theorem dX0_bringSpareBack_19 : decode cX0_bringSpareBack 19 = .ok (.aload_n 0, 1) := by decide +kernel
theorem dX0_bringSpareBack_20 : decode cX0_bringSpareBack 20 = .ok (.getfield 11, 3) := by decide +kernel
theorem dX0_bringSpareBack_23 : decode cX0_bringSpareBack 23 = .ok (.aload_n 0, 1) := by decide +kernel
theorem dX0_bringSpareBack_24 : decode cX0_bringSpareBack 24 = .ok (.getfield 17, 3) := by decide +kernel
theorem dX0_bringSpareBack_27 : decode cX0_bringSpareBack 27 = .ok (.aaload, 1) := by decide +kernel
theorem dX0_bringSpareBack_28 : decode cX0_bringSpareBack 28 = .ok (.goto 4, 3) := by decide +kernel
theorem dX0_bringSpareBack_31 : decode cX0_bringSpareBack 31 = .ok (.aconst_null, 1) := by decide +kernel
theorem dX0_bringSpareBack_32 : decode cX0_bringSpareBack 32 = .ok (.astore_n 2, 1) := by decide +kernel
theorem dX0_bringSpareBack_33 : decode cX0_bringSpareBack 33 = .ok (.aload_n 2, 1) := by decide +kernel
theorem dX0_bringSpareBack_34 : decode cX0_bringSpareBack 34 = .ok (.ifnull 8, 3) := by decide +kernel
theorem dX0_bringSpareBack_37 : decode cX0_bringSpareBack 37 = .ok (.aload_n 1, 1) := by decide +kernel
theorem dX0_bringSpareBack_38 : decode cX0_bringSpareBack 38 = .ok (.aload_n 2, 1) := by decide +kernel
theorem dX0_bringSpareBack_39 : decode cX0_bringSpareBack 39 = .ok (.invokevirtual 32, 3) := by decide +kernel
theorem dX0_bringSpareBack_42 : decode cX0_bringSpareBack 42 = .ok (.return_, 1) := by decide +kernel
theorem dX0_countSpare_0 : decode cX0_countSpare 0 = .ok (.aload_n 0, 1) := by decide +kernel
theorem dX0_countSpare_1 : decode cX0_countSpare 1 = .ok (.aload_n 0, 1) := by decide +kernel
theorem dX0_countSpare_2 : decode cX0_countSpare 2 = .ok (.getfield 17, 3) := by decide +kernel
theorem dX0_countSpare_5 : decode cX0_countSpare 5 = .ok (.iconst 1, 1) := by decide +kernel
theorem dX0_countSpare_6 : decode cX0_countSpare 6 = .ok (.iadd, 1) := by decide +kernel
theorem dX0_countSpare_7 : decode cX0_countSpare 7 = .ok (.aload_n 0, 1) := by decide +kernel
theorem dX0_countSpare_8 : decode cX0_countSpare 8 = .ok (.getfield 11, 3) := by decide +kernel
theorem dX0_countSpare_11 : decode cX0_countSpare 11 = .ok (.arraylength, 1) := by decide +kernel
theorem dX0_countSpare_12 : decode cX0_countSpare 12 = .ok (.if_icmp .ge 12, 3) := by decide +kernel
theorem dX0_countSpare_15 : decode cX0_countSpare 15 = .ok (.aload_n 0, 1) := by decide +kernel
theorem dX0_countSpare_16 : decode cX0_countSpare 16 = .ok (.getfield 17, 3) := by decide +kernel
theorem dX0_countSpare_19 : decode cX0_countSpare 19 = .ok (.iconst 1, 1) := by decide +kernel
theorem dX0_countSpare_20 : decode cX0_countSpare 20 = .ok (.iadd, 1) := by decide +kernel
theorem dX0_countSpare_21 : decode cX0_countSpare 21 = .ok (.goto 4, 3) := by decide +kernel
theorem dX0_countSpare_24 : decode cX0_countSpare 24 = .ok (.iconst 0, 1) := by decide +kernel
theorem dX0_countSpare_25 : decode cX0_countSpare 25 = .ok (.putfield 17, 3) := by decide +kernel
theorem dX0_countSpare_28 : decode cX0_countSpare 28 = .ok (.aload_n 0, 1) := by decide +kernel
theorem dX0_countSpare_29 : decode cX0_countSpare 29 = .ok (.aload_n 0, 1) := by decide +kernel
theorem dX0_countSpare_30 : decode cX0_countSpare 30 = .ok (.getfield 21, 3) := by decide +kernel
theorem dX0_countSpare_33 : decode cX0_countSpare 33 = .ok (.iconst 1, 1) := by decide +kernel
theorem dX0_countSpare_34 : decode cX0_countSpare 34 = .ok (.iadd, 1) := by decide +kernel
theorem dX0_countSpare_35 : decode cX0_countSpare 35 = .ok (.bipush 8, 2) := by decide +kernel
theorem dX0_countSpare_37 : decode cX0_countSpare 37 = .ok (.invokestatic 35, 3) := by decide +kernel
theorem dX0_countSpare_40 : decode cX0_countSpare 40 = .ok (.putfield 21, 3) := by decide +kernel
theorem dX0_countSpare_43 : decode cX0_countSpare 43 = .ok (.return_, 1) := by decide +kernel
theorem dX0_stepBack_0 : decode cX0_stepBack 0 = .ok (.aload_n 0, 1) := by decide +kernel
theorem dX0_stepBack_1 : decode cX0_stepBack 1 = .ok (.aload_n 0, 1) := by decide +kernel
theorem dX0_stepBack_2 : decode cX0_stepBack 2 = .ok (.getfield 17, 3) := by decide +kernel
theorem dX0_stepBack_5 : decode cX0_stepBack 5 = .ok (.ifCond .le 12, 3) := by decide +kernel
theorem dX0_stepBack_8 : decode cX0_stepBack 8 = .ok (.aload_n 0, 1) := by decide +kernel
theorem dX0_stepBack_9 : decode cX0_stepBack 9 = .ok (.getfield 17, 3) := by decide +kernel
theorem dX0_stepBack_12 : decode cX0_stepBack 12 = .ok (.iconst 1, 1) := by decide +kernel
theorem dX0_stepBack_13 : decode cX0_stepBack 13 = .ok (.isub, 1) := by decide +kernel
theorem dX0_stepBack_14 : decode cX0_stepBack 14 = .ok (.goto 10, 3) := by decide +kernel
theorem dX0_stepBack_17 : decode cX0_stepBack 17 = .ok (.aload_n 0, 1) := by decide +kernel
theorem dX0_stepBack_18 : decode cX0_stepBack 18 = .ok (.getfield 11, 3) := by decide +kernel
theorem dX0_stepBack_21 : decode cX0_stepBack 21 = .ok (.arraylength, 1) := by decide +kernel
theorem dX0_stepBack_22 : decode cX0_stepBack 22 = .ok (.iconst 1, 1) := by decide +kernel
theorem dX0_stepBack_23 : decode cX0_stepBack 23 = .ok (.isub, 1) := by decide +kernel
theorem dX0_stepBack_24 : decode cX0_stepBack 24 = .ok (.putfield 17, 3) := by decide +kernel
theorem dX0_stepBack_27 : decode cX0_stepBack 27 = .ok (.aload_n 0, 1) := by decide +kernel
theorem dX0_stepBack_28 : decode cX0_stepBack 28 = .ok (.dup, 1) := by decide +kernel
theorem dX0_stepBack_29 : decode cX0_stepBack 29 = .ok (.getfield 21, 3) := by decide +kernel
theorem dX0_stepBack_32 : decode cX0_stepBack 32 = .ok (.iconst 1, 1) := by decide +kernel
theorem dX0_stepBack_33 : decode cX0_stepBack 33 = .ok (.isub, 1) := by decide +kernel
theorem dX0_stepBack_34 : decode cX0_stepBack 34 = .ok (.putfield 21, 3) := by decide +kernel
theorem dX0_stepBack_37 : decode cX0_stepBack 37 = .ok (.aload_n 0, 1) := by decide +kernel
theorem dX0_stepBack_38 : decode cX0_stepBack 38 = .ok (.aload_n 1, 1) := by decide +kernel
theorem dX0_stepBack_39 : decode cX0_stepBack 39 = .ok (.invokevirtual 41, 3) := by decide +kernel
theorem dX0_stepBack_42 : decode cX0_stepBack 42 = .ok (.return_, 1) := by decide +kernel
theorem dX0_forget_0 : decode cX0_forget 0 = .ok (.aload_n 0, 1) := by decide +kernel
theorem dX0_forget_1 : decode cX0_forget 1 = .ok (.iconst 0, 1) := by decide +kernel
theorem dX0_forget_2 : decode cX0_forget 2 = .ok (.putfield 21, 3) := by decide +kernel
theorem dX0_forget_5 : decode cX0_forget 5 = .ok (.return_, 1) := by decide +kernel
theorem dX1_init_0 : decode cX1_init 0 = .ok (.aload_n 0, 1) := by decide +kernel
theorem dX1_init_1 : decode cX1_init 1 = .ok (.invokespecial 3, 3) := by decide +kernel
theorem dX1_init_4 : decode cX1_init 4 = .ok (.aload_n 0, 1) := by decide +kernel
theorem dX1_init_5 : decode cX1_init 5 = .ok (.new 9, 3) := by decide +kernel
theorem dX1_init_8 : decode cX1_init 8 = .ok (.dup, 1) := by decide +kernel
theorem dX1_init_9 : decode cX1_init 9 = .ok (.bipush 8, 2) := by decide +kernel
theorem dX1_init_11 : decode cX1_init 11 = .ok (.iconst 5, 1) := by decide +kernel
theorem dX1_init_12 : decode cX1_init 12 = .ok (.invokespecial 11, 3) := by decide +kernel
theorem dX1_init_15 : decode cX1_init 15 = .ok (.putfield 14, 3) := by decide +kernel
theorem dX1_init_18 : decode cX1_init 18 = .ok (.aload_n 0, 1) := by decide +kernel
theorem dX1_init_19 : decode cX1_init 19 = .ok (.iconst 0, 1) := by decide +kernel
theorem dX1_init_20 : decode cX1_init 20 = .ok (.putfield 20, 3) := by decide +kernel
theorem dX1_init_23 : decode cX1_init 23 = .ok (.return_, 1) := by decide +kernel
theorem dX1_isText_0 : decode cX1_isText 0 = .ok (.aload_n 0, 1) := by decide +kernel
theorem dX1_isText_1 : decode cX1_isText 1 = .ok (.iconst 0, 1) := by decide +kernel
theorem dX1_isText_2 : decode cX1_isText 2 = .ok (.putfield 20, 3) := by decide +kernel
theorem dX1_isText_5 : decode cX1_isText 5 = .ok (.aload_n 0, 1) := by decide +kernel
theorem dX1_isText_6 : decode cX1_isText 6 = .ok (.getfield 14, 3) := by decide +kernel
theorem dX1_isText_9 : decode cX1_isText 9 = .ok (.invokevirtual 24, 3) := by decide +kernel
theorem dX1_isText_12 : decode cX1_isText 12 = .ok (.iconst 0, 1) := by decide +kernel
theorem dX1_isText_13 : decode cX1_isText 13 = .ok (.istore_n 2, 1) := by decide +kernel
theorem dX1_isText_14 : decode cX1_isText 14 = .ok (.iload_n 2, 1) := by decide +kernel
theorem dX1_isText_15 : decode cX1_isText 15 = .ok (.bipush 60, 2) := by decide +kernel
theorem dX1_isText_17 : decode cX1_isText 17 = .ok (.if_icmp .gt 44, 3) := by decide +kernel
theorem dX1_isText_20 : decode cX1_isText 20 = .ok (.aload_n 0, 1) := by decide +kernel
theorem dX1_isText_21 : decode cX1_isText 21 = .ok (.aload_n 1, 1) := by decide +kernel
theorem dX1_isText_22 : decode cX1_isText 22 = .ok (.invokevirtual 27, 3) := by decide +kernel
theorem dX1_isText_25 : decode cX1_isText 25 = .ok (.ifCond .ne 5, 3) := by decide +kernel
theorem dX1_isText_28 : decode cX1_isText 28 = .ok (.iconst 0, 1) := by decide +kernel
theorem dX1_isText_29 : decode cX1_isText 29 = .ok (.ireturn, 1) := by decide +kernel
theorem dX1_isText_30 : decode cX1_isText 30 = .ok (.aload_n 0, 1) := by decide +kernel
theorem dX1_isText_31 : decode cX1_isText 31 = .ok (.getfield 20, 3) := by decide +kernel
theorem dX1_isText_34 : decode cX1_isText 34 = .ok (.aload_n 1, 1) := by decide +kernel
theorem dX1_isText_35 : decode cX1_isText 35 = .ok (.invokevirtual 31, 3) := by decide +kernel
theorem dX1_isText_38 : decode cX1_isText 38 = .ok (.if_icmp .ne 5, 3) := by decide +kernel
theorem dX1_isText_41 : decode cX1_isText 41 = .ok (.iconst 1, 1) := by decide +kernel
theorem dX1_isText_42 : decode cX1_isText 42 = .ok (.ireturn, 1) := by decide +kernel
theorem dX1_isText_43 : decode cX1_isText 43 = .ok (.aload_n 0, 1) := by decide +kernel
theorem dX1_isText_44 : decode cX1_isText 44 = .ok (.aload_n 1, 1) := by decide +kernel
theorem dX1_isText_45 : decode cX1_isText 45 = .ok (.bipush 59, 2) := by decide +kernel
theorem dX1_isText_47 : decode cX1_isText 47 = .ok (.invokevirtual 37, 3) := by decide +kernel
theorem dX1_isText_50 : decode cX1_isText 50 = .ok (.ifCond .ne 5, 3) := by decide +kernel
theorem dX1_isText_53 : decode cX1_isText 53 = .ok (.iconst 0, 1) := by decide +kernel
theorem dX1_isText_54 : decode cX1_isText 54 = .ok (.ireturn, 1) := by decide +kernel
theorem dX1_isText_55 : decode cX1_isText 55 = .ok (.iinc 2 1, 3) := by decide +kernel
theorem dX1_isText_58 : decode cX1_isText 58 = .ok (.goto (-44), 3) := by decide +kernel
theorem dX1_isText_61 : decode cX1_isText 61 = .ok (.iconst 0, 1) := by decide +kernel
theorem dX1_isText_62 : decode cX1_isText 62 = .ok (.ireturn, 1) := by decide +kernel
theorem dX1_signAt_0 : decode cX1_signAt 0 = .ok (.iload_n 1, 1) := by decide +kernel
theorem dX1_signAt_1 : decode cX1_signAt 1 = .ok (.ifCond .lt 19, 3) := by decide +kernel
theorem dX1_signAt_4 : decode cX1_signAt 4 = .ok (.iload_n 1, 1) := by decide +kernel
theorem dX1_signAt_5 : decode cX1_signAt 5 = .ok (.aload_n 0, 1) := by decide +kernel
theorem dX1_signAt_6 : decode cX1_signAt 6 = .ok (.invokevirtual 31, 3) := by decide +kernel
theorem dX1_signAt_9 : decode cX1_signAt 9 = .ok (.if_icmp .ge 11, 3) := by decide +kernel
theorem dX1_signAt_12 : decode cX1_signAt 12 = .ok (.aload_n 0, 1) := by decide +kernel
theorem dX1_signAt_13 : decode cX1_signAt 13 = .ok (.iload_n 1, 1) := by decide +kernel
theorem dX1_signAt_14 : decode cX1_signAt 14 = .ok (.invokevirtual 41, 3) := by decide +kernel
theorem dX1_signAt_17 : decode cX1_signAt 17 = .ok (.goto 4, 3) := by decide +kernel
theorem dX1_signAt_20 : decode cX1_signAt 20 = .ok (.iconst (-1), 1) := by decide +kernel
theorem dX1_signAt_21 : decode cX1_signAt 21 = .ok (.ireturn, 1) := by decide +kernel
theorem dX1_isSignRead_0 : decode cX1_isSignRead 0 = .ok (.aload_n 1, 1) := by decide +kernel
theorem dX1_isSignRead_1 : decode cX1_isSignRead 1 = .ok (.aload_n 0, 1) := by decide +kernel
theorem dX1_isSignRead_2 : decode cX1_isSignRead 2 = .ok (.getfield 20, 3) := by decide +kernel
theorem dX1_isSignRead_5 : decode cX1_isSignRead 5 = .ok (.invokestatic 45, 3) := by decide +kernel
theorem dX1_isSignRead_8 : decode cX1_isSignRead 8 = .ok (.iload_n 2, 1) := by decide +kernel
theorem dX1_isSignRead_9 : decode cX1_isSignRead 9 = .ok (.if_icmp .ne 7, 3) := by decide +kernel
theorem dX1_isSignRead_12 : decode cX1_isSignRead 12 = .ok (.iconst 1, 1) := by decide +kernel
theorem dX1_isSignRead_13 : decode cX1_isSignRead 13 = .ok (.goto 4, 3) := by decide +kernel
theorem dX1_isSignRead_16 : decode cX1_isSignRead 16 = .ok (.iconst 0, 1) := by decide +kernel
theorem dX1_isSignRead_17 : decode cX1_isSignRead 17 = .ok (.istore_n 3, 1) := by decide +kernel
theorem dX1_isSignRead_18 : decode cX1_isSignRead 18 = .ok (.iload_n 3, 1) := by decide +kernel
theorem dX1_isSignRead_19 : decode cX1_isSignRead 19 = .ok (.ifCond .eq 13, 3) := by decide +kernel
theorem dX1_isSignRead_22 : decode cX1_isSignRead 22 = .ok (.aload_n 0, 1) := by decide +kernel
theorem dX1_isSignRead_23 : decode cX1_isSignRead 23 = .ok (.dup, 1) := by decide +kernel
theorem dX1_isSignRead_24 : decode cX1_isSignRead 24 = .ok (.getfield 20, 3) := by decide +kernel
theorem dX1_isSignRead_27 : decode cX1_isSignRead 27 = .ok (.iconst 1, 1) := by decide +kernel
theorem dX1_isSignRead_28 : decode cX1_isSignRead 28 = .ok (.iadd, 1) := by decide +kernel
theorem dX1_isSignRead_29 : decode cX1_isSignRead 29 = .ok (.putfield 20, 3) := by decide +kernel
theorem dX1_isSignRead_32 : decode cX1_isSignRead 32 = .ok (.iload_n 3, 1) := by decide +kernel
theorem dX1_isSignRead_33 : decode cX1_isSignRead 33 = .ok (.ireturn, 1) := by decide +kernel
theorem dX1_isCommandRead_0 : decode cX1_isCommandRead 0 = .ok (.aload_n 0, 1) := by decide +kernel
theorem dX1_isCommandRead_1 : decode cX1_isCommandRead 1 = .ok (.aload_n 1, 1) := by decide +kernel
theorem dX1_isCommandRead_2 : decode cX1_isCommandRead 2 = .ok (.invokevirtual 49, 3) := by decide +kernel
theorem dX1_isCommandRead_5 : decode cX1_isCommandRead 5 = .ok (.istore_n 2, 1) := by decide +kernel
theorem dX1_isCommandRead_6 : decode cX1_isCommandRead 6 = .ok (.iload_n 2, 1) := by decide +kernel
theorem dX1_isCommandRead_7 : decode cX1_isCommandRead 7 = .ok (.iconst (-1), 1) := by decide +kernel
theorem dX1_isCommandRead_8 : decode cX1_isCommandRead 8 = .ok (.if_icmp .ne 5, 3) := by decide +kernel
theorem dX1_isCommandRead_11 : decode cX1_isCommandRead 11 = .ok (.iconst 0, 1) := by decide +kernel
theorem dX1_isCommandRead_12 : decode cX1_isCommandRead 12 = .ok (.ireturn, 1) := by decide +kernel
theorem dX1_isCommandRead_13 : decode cX1_isCommandRead 13 = .ok (.aload_n 0, 1) := by decide +kernel
theorem dX1_isCommandRead_14 : decode cX1_isCommandRead 14 = .ok (.getfield 14, 3) := by decide +kernel
theorem dX1_isCommandRead_17 : decode cX1_isCommandRead 17 = .ok (.invokevirtual 53, 3) := by decide +kernel
theorem dX1_isCommandRead_20 : decode cX1_isCommandRead 20 = .ok (.istore_n 3, 1) := by decide +kernel
theorem dX1_isCommandRead_21 : decode cX1_isCommandRead 21 = .ok (.aload_n 0, 1) := by decide +kernel
theorem dX1_isCommandRead_22 : decode cX1_isCommandRead 22 = .ok (.getfield 14, 3) := by decide +kernel
theorem dX1_isCommandRead_25 : decode cX1_isCommandRead 25 = .ok (.iload_n 3, 1) := by decide +kernel
theorem dX1_isCommandRead_26 : decode cX1_isCommandRead 26 = .ok (.iconst 0, 1) := by decide +kernel
theorem dX1_isCommandRead_27 : decode cX1_isCommandRead 27 = .ok (.iload_n 2, 1) := by decide +kernel
theorem dX1_isCommandRead_28 : decode cX1_isCommandRead 28 = .ok (.invokevirtual 56, 3) := by decide +kernel
theorem dX1_isCommandRead_31 : decode cX1_isCommandRead 31 = .ok (.iload_n 2, 1) := by decide +kernel
theorem dX1_isCommandRead_32 : decode cX1_isCommandRead 32 = .ok (.ifCond .lt 19, 3) := by decide +kernel
theorem dX1_isCommandRead_35 : decode cX1_isCommandRead 35 = .ok (.iload_n 2, 1) := by decide +kernel
theorem dX1_isCommandRead_36 : decode cX1_isCommandRead 36 = .ok (.getstatic 60, 3) := by decide +kernel
theorem dX1_isCommandRead_39 : decode cX1_isCommandRead 39 = .ok (.arraylength, 1) := by decide +kernel
theorem dX1_isCommandRead_40 : decode cX1_isCommandRead 40 = .ok (.if_icmp .ge 11, 3) := by decide +kernel
theorem dX1_isCommandRead_43 : decode cX1_isCommandRead 43 = .ok (.getstatic 60, 3) := by decide +kernel
theorem dX1_isCommandRead_46 : decode cX1_isCommandRead 46 = .ok (.iload_n 2, 1) := by decide +kernel
theorem dX1_isCommandRead_47 : decode cX1_isCommandRead 47 = .ok (.iaload, 1) := by decide +kernel
theorem dX1_isCommandRead_48 : decode cX1_isCommandRead 48 = .ok (.goto 4, 3) := by decide +kernel
theorem dX1_isCommandRead_51 : decode cX1_isCommandRead 51 = .ok (.iconst 0, 1) := by decide +kernel
theorem dX1_isCommandRead_52 : decode cX1_isCommandRead 52 = .ok (.istore 4, 2) := by decide +kernel
theorem dX1_isCommandRead_54 : decode cX1_isCommandRead 54 = .ok (.iconst 0, 1) := by decide +kernel
theorem dX1_isCommandRead_55 : decode cX1_isCommandRead 55 = .ok (.istore 5, 2) := by decide +kernel
theorem dX1_isCommandRead_57 : decode cX1_isCommandRead 57 = .ok (.iload 5, 2) := by decide +kernel
theorem dX1_isCommandRead_59 : decode cX1_isCommandRead 59 = .ok (.iload 4, 2) := by decide +kernel
theorem dX1_isCommandRead_61 : decode cX1_isCommandRead 61 = .ok (.if_icmp .ge 52, 3) := by decide +kernel
theorem dX1_isCommandRead_64 : decode cX1_isCommandRead 64 = .ok (.aload_n 0, 1) := by decide +kernel
theorem dX1_isCommandRead_65 : decode cX1_isCommandRead 65 = .ok (.aload_n 1, 1) := by decide +kernel
theorem dX1_isCommandRead_66 : decode cX1_isCommandRead 66 = .ok (.bipush 32, 2) := by decide +kernel
theorem dX1_isCommandRead_68 : decode cX1_isCommandRead 68 = .ok (.invokevirtual 37, 3) := by decide +kernel
theorem dX1_isCommandRead_71 : decode cX1_isCommandRead 71 = .ok (.ifCond .eq 17, 3) := by decide +kernel
theorem dX1_isCommandRead_74 : decode cX1_isCommandRead 74 = .ok (.aload_n 1, 1) := by decide +kernel
theorem dX1_isCommandRead_75 : decode cX1_isCommandRead 75 = .ok (.aload_n 0, 1) := by decide +kernel
theorem dX1_isCommandRead_76 : decode cX1_isCommandRead 76 = .ok (.getfield 20, 3) := by decide +kernel
theorem dX1_isCommandRead_79 : decode cX1_isCommandRead 79 = .ok (.invokestatic 45, 3) := by decide +kernel
theorem dX1_isCommandRead_82 : decode cX1_isCommandRead 82 = .ok (.invokestatic 64, 3) := by decide +kernel
theorem dX1_isCommandRead_85 : decode cX1_isCommandRead 85 = .ok (.ifCond .ne 5, 3) := by decide +kernel
theorem dX1_isCommandRead_88 : decode cX1_isCommandRead 88 = .ok (.iconst 0, 1) := by decide +kernel
theorem dX1_isCommandRead_89 : decode cX1_isCommandRead 89 = .ok (.ireturn, 1) := by decide +kernel
theorem dX1_isCommandRead_90 : decode cX1_isCommandRead 90 = .ok (.aload_n 0, 1) := by decide +kernel
theorem dX1_isCommandRead_91 : decode cX1_isCommandRead 91 = .ok (.getfield 14, 3) := by decide +kernel
theorem dX1_isCommandRead_94 : decode cX1_isCommandRead 94 = .ok (.iload_n 3, 1) := by decide +kernel
theorem dX1_isCommandRead_95 : decode cX1_isCommandRead 95 = .ok (.iconst 1, 1) := by decide +kernel
theorem dX1_isCommandRead_96 : decode cX1_isCommandRead 96 = .ok (.iload 5, 2) := by decide +kernel
theorem dX1_isCommandRead_98 : decode cX1_isCommandRead 98 = .ok (.iadd, 1) := by decide +kernel
theorem dX1_isCommandRead_99 : decode cX1_isCommandRead 99 = .ok (.aload_n 0, 1) := by decide +kernel
theorem dX1_isCommandRead_100 : decode cX1_isCommandRead 100 = .ok (.aload_n 1, 1) := by decide +kernel
theorem dX1_isCommandRead_101 : decode cX1_isCommandRead 101 = .ok (.invokevirtual 68, 3) := by decide +kernel
theorem dX1_isCommandRead_104 : decode cX1_isCommandRead 104 = .ok (.invokevirtual 56, 3) := by decide +kernel
theorem dX1_isCommandRead_107 : decode cX1_isCommandRead 107 = .ok (.iinc 5 1, 3) := by decide +kernel
theorem dX1_isCommandRead_110 : decode cX1_isCommandRead 110 = .ok (.goto (-53), 3) := by decide +kernel
theorem dX1_isCommandRead_113 : decode cX1_isCommandRead 113 = .ok (.iconst 1, 1) := by decide +kernel
theorem dX1_isCommandRead_114 : decode cX1_isCommandRead 114 = .ok (.ireturn, 1) := by decide +kernel
theorem dX1_readWord_0 : decode cX1_readWord 0 = .ok (.iconst 0, 1) := by decide +kernel
theorem dX1_readWord_1 : decode cX1_readWord 1 = .ok (.istore_n 2, 1) := by decide +kernel
theorem dX1_readWord_2 : decode cX1_readWord 2 = .ok (.iconst (-1), 1) := by decide +kernel
theorem dX1_readWord_3 : decode cX1_readWord 3 = .ok (.istore_n 3, 1) := by decide +kernel
theorem dX1_readWord_4 : decode cX1_readWord 4 = .ok (.iconst 0, 1) := by decide +kernel
theorem dX1_readWord_5 : decode cX1_readWord 5 = .ok (.istore 4, 2) := by decide +kernel
theorem dX1_readWord_7 : decode cX1_readWord 7 = .ok (.iload 4, 2) := by decide +kernel
theorem dX1_readWord_9 : decode cX1_readWord 9 = .ok (.getstatic 60, 3) := by decide +kernel
theorem dX1_readWord_12 : decode cX1_readWord 12 = .ok (.arraylength, 1) := by decide +kernel
theorem dX1_readWord_13 : decode cX1_readWord 13 = .ok (.if_icmp .ge 34, 3) := by decide +kernel
theorem dX1_readWord_16 : decode cX1_readWord 16 = .ok (.aload_n 0, 1) := by decide +kernel
theorem dX1_readWord_17 : decode cX1_readWord 17 = .ok (.aload_n 1, 1) := by decide +kernel
theorem dX1_readWord_18 : decode cX1_readWord 18 = .ok (.iload 4, 2) := by decide +kernel
theorem dX1_readWord_20 : decode cX1_readWord 20 = .ok (.invokevirtual 71, 3) := by decide +kernel
theorem dX1_readWord_23 : decode cX1_readWord 23 = .ok (.istore 5, 2) := by decide +kernel
theorem dX1_readWord_25 : decode cX1_readWord 25 = .ok (.iload_n 2, 1) := by decide +kernel
theorem dX1_readWord_26 : decode cX1_readWord 26 = .ok (.iload 5, 2) := by decide +kernel
theorem dX1_readWord_28 : decode cX1_readWord 28 = .ok (.invokestatic 74, 3) := by decide +kernel
theorem dX1_readWord_31 : decode cX1_readWord 31 = .ok (.istore_n 2, 1) := by decide +kernel
theorem dX1_readWord_32 : decode cX1_readWord 32 = .ok (.iload 5, 2) := by decide +kernel
theorem dX1_readWord_34 : decode cX1_readWord 34 = .ok (.iconst 4, 1) := by decide +kernel
theorem dX1_readWord_35 : decode cX1_readWord 35 = .ok (.if_icmp .ne 6, 3) := by decide +kernel
theorem dX1_readWord_38 : decode cX1_readWord 38 = .ok (.iload 4, 2) := by decide +kernel
theorem dX1_readWord_40 : decode cX1_readWord 40 = .ok (.istore_n 3, 1) := by decide +kernel
theorem dX1_readWord_41 : decode cX1_readWord 41 = .ok (.iinc 4 1, 3) := by decide +kernel
theorem dX1_readWord_44 : decode cX1_readWord 44 = .ok (.goto (-37), 3) := by decide +kernel
theorem dX1_readWord_47 : decode cX1_readWord 47 = .ok (.aload_n 0, 1) := by decide +kernel
theorem dX1_readWord_48 : decode cX1_readWord 48 = .ok (.dup, 1) := by decide +kernel
theorem dX1_readWord_49 : decode cX1_readWord 49 = .ok (.getfield 20, 3) := by decide +kernel
theorem dX1_readWord_52 : decode cX1_readWord 52 = .ok (.iload_n 2, 1) := by decide +kernel
theorem dX1_readWord_53 : decode cX1_readWord 53 = .ok (.iadd, 1) := by decide +kernel
theorem dX1_readWord_54 : decode cX1_readWord 54 = .ok (.putfield 20, 3) := by decide +kernel
theorem dX1_readWord_57 : decode cX1_readWord 57 = .ok (.iload_n 3, 1) := by decide +kernel
theorem dX1_readWord_58 : decode cX1_readWord 58 = .ok (.ireturn, 1) := by decide +kernel
theorem dX1_rightLetters_0 : decode cX1_rightLetters 0 = .ok (.iconst 0, 1) := by decide +kernel
theorem dX1_rightLetters_1 : decode cX1_rightLetters 1 = .ok (.istore_n 3, 1) := by decide +kernel
theorem dX1_rightLetters_2 : decode cX1_rightLetters 2 = .ok (.iload_n 3, 1) := by decide +kernel
theorem dX1_rightLetters_3 : decode cX1_rightLetters 3 = .ok (.iconst 4, 1) := by decide +kernel
theorem dX1_rightLetters_4 : decode cX1_rightLetters 4 = .ok (.if_icmp .ge 65, 3) := by decide +kernel
theorem dX1_rightLetters_7 : decode cX1_rightLetters 7 = .ok (.iload_n 2, 1) := by decide +kernel
theorem dX1_rightLetters_8 : decode cX1_rightLetters 8 = .ok (.iconst 4, 1) := by decide +kernel
theorem dX1_rightLetters_9 : decode cX1_rightLetters 9 = .ok (.imul, 1) := by decide +kernel
theorem dX1_rightLetters_10 : decode cX1_rightLetters 10 = .ok (.iload_n 3, 1) := by decide +kernel
theorem dX1_rightLetters_11 : decode cX1_rightLetters 11 = .ok (.iadd, 1) := by decide +kernel
theorem dX1_rightLetters_12 : decode cX1_rightLetters 12 = .ok (.istore 4, 2) := by decide +kernel
theorem dX1_rightLetters_14 : decode cX1_rightLetters 14 = .ok (.iload 4, 2) := by decide +kernel
theorem dX1_rightLetters_16 : decode cX1_rightLetters 16 = .ok (.ifCond .lt 37, 3) := by decide +kernel
theorem dX1_rightLetters_19 : decode cX1_rightLetters 19 = .ok (.iload 4, 2) := by decide +kernel
theorem dX1_rightLetters_21 : decode cX1_rightLetters 21 = .ok (.ldc 80, 2) := by decide +kernel
theorem dX1_rightLetters_23 : decode cX1_rightLetters 23 = .ok (.invokevirtual 82, 3) := by decide +kernel
theorem dX1_rightLetters_26 : decode cX1_rightLetters 26 = .ok (.if_icmp .ge 27, 3) := by decide +kernel
theorem dX1_rightLetters_29 : decode cX1_rightLetters 29 = .ok (.aload_n 1, 1) := by decide +kernel
theorem dX1_rightLetters_30 : decode cX1_rightLetters 30 = .ok (.aload_n 0, 1) := by decide +kernel
theorem dX1_rightLetters_31 : decode cX1_rightLetters 31 = .ok (.getfield 20, 3) := by decide +kernel
theorem dX1_rightLetters_34 : decode cX1_rightLetters 34 = .ok (.iload_n 3, 1) := by decide +kernel
theorem dX1_rightLetters_35 : decode cX1_rightLetters 35 = .ok (.iadd, 1) := by decide +kernel
theorem dX1_rightLetters_36 : decode cX1_rightLetters 36 = .ok (.invokestatic 45, 3) := by decide +kernel
theorem dX1_rightLetters_39 : decode cX1_rightLetters 39 = .ok (.ldc 80, 2) := by decide +kernel
theorem dX1_rightLetters_41 : decode cX1_rightLetters 41 = .ok (.iload 4, 2) := by decide +kernel
theorem dX1_rightLetters_43 : decode cX1_rightLetters 43 = .ok (.invokevirtual 85, 3) := by decide +kernel
theorem dX1_rightLetters_46 : decode cX1_rightLetters 46 = .ok (.if_icmp .ne 7, 3) := by decide +kernel
theorem dX1_rightLetters_49 : decode cX1_rightLetters 49 = .ok (.iconst 1, 1) := by decide +kernel
theorem dX1_rightLetters_50 : decode cX1_rightLetters 50 = .ok (.goto 4, 3) := by decide +kernel
theorem dX1_rightLetters_53 : decode cX1_rightLetters 53 = .ok (.iconst 0, 1) := by decide +kernel
theorem dX1_rightLetters_54 : decode cX1_rightLetters 54 = .ok (.istore 5, 2) := by decide +kernel
theorem dX1_rightLetters_56 : decode cX1_rightLetters 56 = .ok (.iload 5, 2) := by decide +kernel
theorem dX1_rightLetters_58 : decode cX1_rightLetters 58 = .ok (.ifCond .ne 5, 3) := by decide +kernel
theorem dX1_rightLetters_61 : decode cX1_rightLetters 61 = .ok (.iload_n 3, 1) := by decide +kernel
theorem dX1_rightLetters_62 : decode cX1_rightLetters 62 = .ok (.ireturn, 1) := by decide +kernel
theorem dX1_rightLetters_63 : decode cX1_rightLetters 63 = .ok (.iinc 3 1, 3) := by decide +kernel
theorem dX1_rightLetters_66 : decode cX1_rightLetters 66 = .ok (.goto (-64), 3) := by decide +kernel
theorem dX1_rightLetters_69 : decode cX1_rightLetters 69 = .ok (.iconst 4, 1) := by decide +kernel
theorem dX1_rightLetters_70 : decode cX1_rightLetters 70 = .ok (.ireturn, 1) := by decide +kernel
theorem dX1_isDigit_0 : decode cX1_isDigit 0 = .ok (.iload_n 0, 1) := by decide +kernel
theorem dX1_isDigit_1 : decode cX1_isDigit 1 = .ok (.bipush 48, 2) := by decide +kernel
theorem dX1_isDigit_3 : decode cX1_isDigit 3 = .ok (.if_icmp .lt 13, 3) := by decide +kernel
theorem dX1_isDigit_6 : decode cX1_isDigit 6 = .ok (.iload_n 0, 1) := by decide +kernel
theorem dX1_isDigit_7 : decode cX1_isDigit 7 = .ok (.bipush 57, 2) := by decide +kernel
theorem dX1_isDigit_9 : decode cX1_isDigit 9 = .ok (.if_icmp .gt 7, 3) := by decide +kernel
theorem dX1_isDigit_12 : decode cX1_isDigit 12 = .ok (.iconst 1, 1) := by decide +kernel
theorem dX1_isDigit_13 : decode cX1_isDigit 13 = .ok (.goto 4, 3) := by decide +kernel
theorem dX1_isDigit_16 : decode cX1_isDigit 16 = .ok (.iconst 0, 1) := by decide +kernel
theorem dX1_isDigit_17 : decode cX1_isDigit 17 = .ok (.ireturn, 1) := by decide +kernel
theorem dX1_readNumber_0 : decode cX1_readNumber 0 = .ok (.iconst 0, 1) := by decide +kernel
theorem dX1_readNumber_1 : decode cX1_readNumber 1 = .ok (.istore_n 2, 1) := by decide +kernel
theorem dX1_readNumber_2 : decode cX1_readNumber 2 = .ok (.iconst 0, 1) := by decide +kernel
theorem dX1_readNumber_3 : decode cX1_readNumber 3 = .ok (.istore_n 3, 1) := by decide +kernel
theorem dX1_readNumber_4 : decode cX1_readNumber 4 = .ok (.iload_n 3, 1) := by decide +kernel
theorem dX1_readNumber_5 : decode cX1_readNumber 5 = .ok (.iconst 3, 1) := by decide +kernel
theorem dX1_readNumber_6 : decode cX1_readNumber 6 = .ok (.if_icmp .ge 58, 3) := by decide +kernel
theorem dX1_readNumber_9 : decode cX1_readNumber 9 = .ok (.aload_n 1, 1) := by decide +kernel
theorem dX1_readNumber_10 : decode cX1_readNumber 10 = .ok (.aload_n 0, 1) := by decide +kernel
theorem dX1_readNumber_11 : decode cX1_readNumber 11 = .ok (.getfield 20, 3) := by decide +kernel
theorem dX1_readNumber_14 : decode cX1_readNumber 14 = .ok (.invokestatic 45, 3) := by decide +kernel
theorem dX1_readNumber_17 : decode cX1_readNumber 17 = .ok (.istore 4, 2) := by decide +kernel
theorem dX1_readNumber_19 : decode cX1_readNumber 19 = .ok (.iload 4, 2) := by decide +kernel
theorem dX1_readNumber_21 : decode cX1_readNumber 21 = .ok (.invokestatic 64, 3) := by decide +kernel
theorem dX1_readNumber_24 : decode cX1_readNumber 24 = .ok (.ifCond .eq 11, 3) := by decide +kernel
theorem dX1_readNumber_27 : decode cX1_readNumber 27 = .ok (.iload_n 3, 1) := by decide +kernel
theorem dX1_readNumber_28 : decode cX1_readNumber 28 = .ok (.ifCond .le 9, 3) := by decide +kernel
theorem dX1_readNumber_31 : decode cX1_readNumber 31 = .ok (.iload_n 2, 1) := by decide +kernel
theorem dX1_readNumber_32 : decode cX1_readNumber 32 = .ok (.ifCond .ne 5, 3) := by decide +kernel
theorem dX1_readNumber_35 : decode cX1_readNumber 35 = .ok (.iload_n 2, 1) := by decide +kernel
theorem dX1_readNumber_36 : decode cX1_readNumber 36 = .ok (.ireturn, 1) := by decide +kernel
theorem dX1_readNumber_37 : decode cX1_readNumber 37 = .ok (.iload_n 2, 1) := by decide +kernel
theorem dX1_readNumber_38 : decode cX1_readNumber 38 = .ok (.bipush 10, 2) := by decide +kernel
theorem dX1_readNumber_40 : decode cX1_readNumber 40 = .ok (.imul, 1) := by decide +kernel
theorem dX1_readNumber_41 : decode cX1_readNumber 41 = .ok (.iload 4, 2) := by decide +kernel
theorem dX1_readNumber_43 : decode cX1_readNumber 43 = .ok (.iadd, 1) := by decide +kernel
theorem dX1_readNumber_44 : decode cX1_readNumber 44 = .ok (.bipush 48, 2) := by decide +kernel
theorem dX1_readNumber_46 : decode cX1_readNumber 46 = .ok (.isub, 1) := by decide +kernel
theorem dX1_readNumber_47 : decode cX1_readNumber 47 = .ok (.istore_n 2, 1) := by decide +kernel
theorem dX1_readNumber_48 : decode cX1_readNumber 48 = .ok (.aload_n 0, 1) := by decide +kernel
theorem dX1_readNumber_49 : decode cX1_readNumber 49 = .ok (.dup, 1) := by decide +kernel
theorem dX1_readNumber_50 : decode cX1_readNumber 50 = .ok (.getfield 20, 3) := by decide +kernel
theorem dX1_readNumber_53 : decode cX1_readNumber 53 = .ok (.iconst 1, 1) := by decide +kernel
theorem dX1_readNumber_54 : decode cX1_readNumber 54 = .ok (.iadd, 1) := by decide +kernel
theorem dX1_readNumber_55 : decode cX1_readNumber 55 = .ok (.putfield 20, 3) := by decide +kernel
theorem dX1_readNumber_58 : decode cX1_readNumber 58 = .ok (.iinc 3 1, 3) := by decide +kernel
theorem dX1_readNumber_61 : decode cX1_readNumber 61 = .ok (.goto (-57), 3) := by decide +kernel
theorem dX1_readNumber_64 : decode cX1_readNumber 64 = .ok (.iload_n 2, 1) := by decide +kernel
theorem dX1_readNumber_65 : decode cX1_readNumber 65 = .ok (.ireturn, 1) := by decide +kernel
theorem dX2_init_0 : decode cX2_init 0 = .ok (.aload_n 0, 1) := by decide +kernel
theorem dX2_init_1 : decode cX2_init 1 = .ok (.invokespecial 3, 3) := by decide +kernel
theorem dX2_init_4 : decode cX2_init 4 = .ok (.aload_n 0, 1) := by decide +kernel
theorem dX2_init_5 : decode cX2_init 5 = .ok (.new 9, 3) := by decide +kernel
theorem dX2_init_8 : decode cX2_init 8 = .ok (.dup, 1) := by decide +kernel
theorem dX2_init_9 : decode cX2_init 9 = .ok (.bipush 30, 2) := by decide +kernel
theorem dX2_init_11 : decode cX2_init 11 = .ok (.bipush 7, 2) := by decide +kernel
theorem dX2_init_13 : decode cX2_init 13 = .ok (.invokespecial 13, 3) := by decide +kernel
theorem dX2_init_16 : decode cX2_init 16 = .ok (.putfield 16, 3) := by decide +kernel
theorem dX2_init_19 : decode cX2_init 19 = .ok (.aload_n 0, 1) := by decide +kernel
theorem dX2_init_20 : decode cX2_init 20 = .ok (.iconst 0, 1) := by decide +kernel
theorem dX2_init_21 : decode cX2_init 21 = .ok (.putfield 20, 3) := by decide +kernel
theorem dX2_init_24 : decode cX2_init 24 = .ok (.aload_n 0, 1) := by decide +kernel
theorem dX2_init_25 : decode cX2_init 25 = .ok (.iconst 0, 1) := by decide +kernel
theorem dX2_init_26 : decode cX2_init 26 = .ok (.putfield 24, 3) := by decide +kernel
theorem dX2_init_29 : decode cX2_init 29 = .ok (.aload_n 0, 1) := by decide +kernel
theorem dX2_init_30 : decode cX2_init 30 = .ok (.iconst (-1), 1) := by decide +kernel
theorem dX2_init_31 : decode cX2_init 31 = .ok (.putfield 27, 3) := by decide +kernel
theorem dX2_init_34 : decode cX2_init 34 = .ok (.return_, 1) := by decide +kernel
theorem dX2_takeUp_0 : decode cX2_takeUp 0 = .ok (.aload_n 0, 1) := by decide +kernel
theorem dX2_takeUp_1 : decode cX2_takeUp 1 = .ok (.iload_n 3, 1) := by decide +kernel
theorem dX2_takeUp_2 : decode cX2_takeUp 2 = .ok (.putfield 20, 3) := by decide +kernel
theorem dX2_takeUp_5 : decode cX2_takeUp 5 = .ok (.aload_n 0, 1) := by decide +kernel
theorem dX2_takeUp_6 : decode cX2_takeUp 6 = .ok (.iload 4, 2) := by decide +kernel
theorem dX2_takeUp_8 : decode cX2_takeUp 8 = .ok (.putfield 24, 3) := by decide +kernel
theorem dX2_takeUp_11 : decode cX2_takeUp 11 = .ok (.aload_n 1, 1) := by decide +kernel
theorem dX2_takeUp_12 : decode cX2_takeUp 12 = .ok (.iconst 2, 1) := by decide +kernel
theorem dX2_takeUp_13 : decode cX2_takeUp 13 = .ok (.invokevirtual 30, 3) := by decide +kernel
theorem dX2_takeUp_16 : decode cX2_takeUp 16 = .ok (.istore 5, 2) := by decide +kernel
theorem dX2_takeUp_18 : decode cX2_takeUp 18 = .ok (.aload_n 0, 1) := by decide +kernel
theorem dX2_takeUp_19 : decode cX2_takeUp 19 = .ok (.getfield 16, 3) := by decide +kernel
theorem dX2_takeUp_22 : decode cX2_takeUp 22 = .ok (.invokevirtual 36, 3) := by decide +kernel
theorem dX2_takeUp_25 : decode cX2_takeUp 25 = .ok (.iconst 0, 1) := by decide +kernel
theorem dX2_takeUp_26 : decode cX2_takeUp 26 = .ok (.istore 6, 2) := by decide +kernel
theorem dX2_takeUp_28 : decode cX2_takeUp 28 = .ok (.iload 6, 2) := by decide +kernel
theorem dX2_takeUp_30 : decode cX2_takeUp 30 = .ok (.aload_n 1, 1) := by decide +kernel
theorem dX2_takeUp_31 : decode cX2_takeUp 31 = .ok (.getfield 39, 3) := by decide +kernel
theorem dX2_takeUp_34 : decode cX2_takeUp 34 = .ok (.invokevirtual 42, 3) := by decide +kernel
theorem dX2_takeUp_37 : decode cX2_takeUp 37 = .ok (.if_icmp .ge 37, 3) := by decide +kernel
theorem dX2_takeUp_40 : decode cX2_takeUp 40 = .ok (.iload 6, 2) := by decide +kernel
theorem dX2_takeUp_42 : decode cX2_takeUp 42 = .ok (.iload_n 2, 1) := by decide +kernel
theorem dX2_takeUp_43 : decode cX2_takeUp 43 = .ok (.if_icmp .eq 25, 3) := by decide +kernel
theorem dX2_takeUp_46 : decode cX2_takeUp 46 = .ok (.aload_n 1, 1) := by decide +kernel
theorem dX2_takeUp_47 : decode cX2_takeUp 47 = .ok (.iload 6, 2) := by decide +kernel
theorem dX2_takeUp_49 : decode cX2_takeUp 49 = .ok (.aload_n 0, 1) := by decide +kernel
theorem dX2_takeUp_50 : decode cX2_takeUp 50 = .ok (.getfield 24, 3) := by decide +kernel
theorem dX2_takeUp_53 : decode cX2_takeUp 53 = .ok (.invokevirtual 46, 3) := by decide +kernel
theorem dX2_takeUp_56 : decode cX2_takeUp 56 = .ok (.ifCond .eq 12, 3) := by decide +kernel
theorem dX2_takeUp_59 : decode cX2_takeUp 59 = .ok (.aload_n 0, 1) := by decide +kernel
theorem dX2_takeUp_60 : decode cX2_takeUp 60 = .ok (.aload_n 1, 1) := by decide +kernel
theorem dX2_takeUp_61 : decode cX2_takeUp 61 = .ok (.iload 6, 2) := by decide +kernel
theorem dX2_takeUp_63 : decode cX2_takeUp 63 = .ok (.iload 5, 2) := by decide +kernel
theorem dX2_takeUp_65 : decode cX2_takeUp 65 = .ok (.invokevirtual 50, 3) := by decide +kernel
theorem dX2_takeUp_68 : decode cX2_takeUp 68 = .ok (.iinc 6 1, 3) := by decide +kernel
theorem dX2_takeUp_71 : decode cX2_takeUp 71 = .ok (.goto (-43), 3) := by decide +kernel
theorem dX2_takeUp_74 : decode cX2_takeUp 74 = .ok (.return_, 1) := by decide +kernel
theorem dX2_addOther_0 : decode cX2_addOther 0 = .ok (.aload_n 1, 1) := by decide +kernel
theorem dX2_addOther_1 : decode cX2_addOther 1 = .ok (.getfield 39, 3) := by decide +kernel
theorem dX2_addOther_4 : decode cX2_addOther 4 = .ok (.iload_n 2, 1) := by decide +kernel
theorem dX2_addOther_5 : decode cX2_addOther 5 = .ok (.iconst 0, 1) := by decide +kernel
theorem dX2_addOther_6 : decode cX2_addOther 6 = .ok (.invokevirtual 54, 3) := by decide +kernel
theorem dX2_addOther_9 : decode cX2_addOther 9 = .ok (.istore 4, 2) := by decide +kernel
theorem dX2_addOther_11 : decode cX2_addOther 11 = .ok (.aload_n 1, 1) := by decide +kernel
theorem dX2_addOther_12 : decode cX2_addOther 12 = .ok (.getfield 39, 3) := by decide +kernel
theorem dX2_addOther_15 : decode cX2_addOther 15 = .ok (.iload_n 2, 1) := by decide +kernel
theorem dX2_addOther_16 : decode cX2_addOther 16 = .ok (.iconst 3, 1) := by decide +kernel
theorem dX2_addOther_17 : decode cX2_addOther 17 = .ok (.invokevirtual 54, 3) := by decide +kernel
theorem dX2_addOther_20 : decode cX2_addOther 20 = .ok (.istore 5, 2) := by decide +kernel
theorem dX2_addOther_22 : decode cX2_addOther 22 = .ok (.aload_n 1, 1) := by decide +kernel
theorem dX2_addOther_23 : decode cX2_addOther 23 = .ok (.getfield 39, 3) := by decide +kernel
theorem dX2_addOther_26 : decode cX2_addOther 26 = .ok (.iload_n 2, 1) := by decide +kernel
theorem dX2_addOther_27 : decode cX2_addOther 27 = .ok (.iconst 4, 1) := by decide +kernel
theorem dX2_addOther_28 : decode cX2_addOther 28 = .ok (.invokevirtual 54, 3) := by decide +kernel
theorem dX2_addOther_31 : decode cX2_addOther 31 = .ok (.istore 6, 2) := by decide +kernel
theorem dX2_addOther_33 : decode cX2_addOther 33 = .ok (.aload_n 1, 1) := by decide +kernel
theorem dX2_addOther_34 : decode cX2_addOther 34 = .ok (.getfield 39, 3) := by decide +kernel
theorem dX2_addOther_37 : decode cX2_addOther 37 = .ok (.iload_n 2, 1) := by decide +kernel
theorem dX2_addOther_38 : decode cX2_addOther 38 = .ok (.iconst 1, 1) := by decide +kernel
theorem dX2_addOther_39 : decode cX2_addOther 39 = .ok (.invokevirtual 54, 3) := by decide +kernel
theorem dX2_addOther_42 : decode cX2_addOther 42 = .ok (.aload_n 0, 1) := by decide +kernel
theorem dX2_addOther_43 : decode cX2_addOther 43 = .ok (.getfield 20, 3) := by decide +kernel
theorem dX2_addOther_46 : decode cX2_addOther 46 = .ok (.if_icmp .ne 7, 3) := by decide +kernel
theorem dX2_addOther_49 : decode cX2_addOther 49 = .ok (.iconst 1, 1) := by decide +kernel
theorem dX2_addOther_50 : decode cX2_addOther 50 = .ok (.goto 4, 3) := by decide +kernel
theorem dX2_addOther_53 : decode cX2_addOther 53 = .ok (.iconst 0, 1) := by decide +kernel
theorem dX2_addOther_54 : decode cX2_addOther 54 = .ok (.istore 7, 2) := by decide +kernel
theorem dX2_addOther_56 : decode cX2_addOther 56 = .ok (.aload_n 0, 1) := by decide +kernel
theorem dX2_addOther_57 : decode cX2_addOther 57 = .ok (.getfield 16, 3) := by decide +kernel
theorem dX2_addOther_60 : decode cX2_addOther 60 = .ok (.invokevirtual 58, 3) := by decide +kernel
theorem dX2_addOther_63 : decode cX2_addOther 63 = .ok (.istore 8, 2) := by decide +kernel
theorem dX2_addOther_65 : decode cX2_addOther 65 = .ok (.aload_n 0, 1) := by decide +kernel
theorem dX2_addOther_66 : decode cX2_addOther 66 = .ok (.getfield 16, 3) := by decide +kernel
theorem dX2_addOther_69 : decode cX2_addOther 69 = .ok (.iload 8, 2) := by decide +kernel
theorem dX2_addOther_71 : decode cX2_addOther 71 = .ok (.iconst 0, 1) := by decide +kernel
theorem dX2_addOther_72 : decode cX2_addOther 72 = .ok (.iload_n 2, 1) := by decide +kernel
theorem dX2_addOther_73 : decode cX2_addOther 73 = .ok (.invokevirtual 61, 3) := by decide +kernel
theorem dX2_addOther_76 : decode cX2_addOther 76 = .ok (.aload_n 0, 1) := by decide +kernel
theorem dX2_addOther_77 : decode cX2_addOther 77 = .ok (.getfield 16, 3) := by decide +kernel
theorem dX2_addOther_80 : decode cX2_addOther 80 = .ok (.iload 8, 2) := by decide +kernel
theorem dX2_addOther_82 : decode cX2_addOther 82 = .ok (.iconst 1, 1) := by decide +kernel
theorem dX2_addOther_83 : decode cX2_addOther 83 = .ok (.iload 4, 2) := by decide +kernel
theorem dX2_addOther_85 : decode cX2_addOther 85 = .ok (.invokevirtual 61, 3) := by decide +kernel
theorem dX2_addOther_88 : decode cX2_addOther 88 = .ok (.aload_n 0, 1) := by decide +kernel
theorem dX2_addOther_89 : decode cX2_addOther 89 = .ok (.getfield 16, 3) := by decide +kernel
theorem dX2_addOther_92 : decode cX2_addOther 92 = .ok (.iload 8, 2) := by decide +kernel
theorem dX2_addOther_94 : decode cX2_addOther 94 = .ok (.iconst 2, 1) := by decide +kernel
theorem dX2_addOther_95 : decode cX2_addOther 95 = .ok (.aload_n 1, 1) := by decide +kernel
theorem dX2_addOther_96 : decode cX2_addOther 96 = .ok (.getfield 65, 3) := by decide +kernel
theorem dX2_addOther_99 : decode cX2_addOther 99 = .ok (.iload 4, 2) := by decide +kernel
theorem dX2_addOther_101 : decode cX2_addOther 101 = .ok (.iconst 2, 1) := by decide +kernel
theorem dX2_addOther_102 : decode cX2_addOther 102 = .ok (.invokevirtual 54, 3) := by decide +kernel
theorem dX2_addOther_105 : decode cX2_addOther 105 = .ok (.invokevirtual 61, 3) := by decide +kernel
theorem dX2_addOther_108 : decode cX2_addOther 108 = .ok (.aload_n 0, 1) := by decide +kernel
theorem dX2_addOther_109 : decode cX2_addOther 109 = .ok (.getfield 16, 3) := by decide +kernel
theorem dX2_addOther_112 : decode cX2_addOther 112 = .ok (.iload 8, 2) := by decide +kernel
theorem dX2_addOther_114 : decode cX2_addOther 114 = .ok (.iconst 3, 1) := by decide +kernel
theorem dX2_addOther_115 : decode cX2_addOther 115 = .ok (.iload 5, 2) := by decide +kernel
theorem dX2_addOther_117 : decode cX2_addOther 117 = .ok (.invokevirtual 61, 3) := by decide +kernel
theorem dX2_addOther_120 : decode cX2_addOther 120 = .ok (.aload_n 0, 1) := by decide +kernel
theorem dX2_addOther_121 : decode cX2_addOther 121 = .ok (.getfield 16, 3) := by decide +kernel
theorem dX2_addOther_124 : decode cX2_addOther 124 = .ok (.iload 8, 2) := by decide +kernel
theorem dX2_addOther_126 : decode cX2_addOther 126 = .ok (.iconst 4, 1) := by decide +kernel
theorem dX2_addOther_127 : decode cX2_addOther 127 = .ok (.iload 6, 2) := by decide +kernel
theorem dX2_addOther_129 : decode cX2_addOther 129 = .ok (.invokevirtual 61, 3) := by decide +kernel
theorem dX2_addOther_132 : decode cX2_addOther 132 = .ok (.aload_n 0, 1) := by decide +kernel
theorem dX2_addOther_133 : decode cX2_addOther 133 = .ok (.getfield 16, 3) := by decide +kernel
theorem dX2_addOther_136 : decode cX2_addOther 136 = .ok (.iload 8, 2) := by decide +kernel
theorem dX2_addOther_138 : decode cX2_addOther 138 = .ok (.iconst 5, 1) := by decide +kernel
theorem dX2_addOther_139 : decode cX2_addOther 139 = .ok (.iload 6, 2) := by decide +kernel
theorem dX2_addOther_141 : decode cX2_addOther 141 = .ok (.aload_n 1, 1) := by decide +kernel
theorem dX2_addOther_142 : decode cX2_addOther 142 = .ok (.getfield 65, 3) := by decide +kernel
theorem dX2_addOther_145 : decode cX2_addOther 145 = .ok (.iload 4, 2) := by decide +kernel
theorem dX2_addOther_147 : decode cX2_addOther 147 = .ok (.iconst 1, 1) := by decide +kernel
theorem dX2_addOther_148 : decode cX2_addOther 148 = .ok (.invokevirtual 54, 3) := by decide +kernel
theorem dX2_addOther_151 : decode cX2_addOther 151 = .ok (.iadd, 1) := by decide +kernel
theorem dX2_addOther_152 : decode cX2_addOther 152 = .ok (.invokevirtual 61, 3) := by decide +kernel
theorem dX2_addOther_155 : decode cX2_addOther 155 = .ok (.aload_n 0, 1) := by decide +kernel
theorem dX2_addOther_156 : decode cX2_addOther 156 = .ok (.getfield 16, 3) := by decide +kernel
theorem dX2_addOther_159 : decode cX2_addOther 159 = .ok (.iload 8, 2) := by decide +kernel
theorem dX2_addOther_161 : decode cX2_addOther 161 = .ok (.bipush 6, 2) := by decide +kernel
theorem dX2_addOther_163 : decode cX2_addOther 163 = .ok (.iload 7, 2) := by decide +kernel
theorem dX2_addOther_165 : decode cX2_addOther 165 = .ok (.ifCond .eq 10, 3) := by decide +kernel
theorem dX2_addOther_168 : decode cX2_addOther 168 = .ok (.iload 6, 2) := by decide +kernel
theorem dX2_addOther_170 : decode cX2_addOther 170 = .ok (.iload_n 3, 1) := by decide +kernel
theorem dX2_addOther_171 : decode cX2_addOther 171 = .ok (.iadd, 1) := by decide +kernel
theorem dX2_addOther_172 : decode cX2_addOther 172 = .ok (.goto 5, 3) := by decide +kernel
theorem dX2_addOther_175 : decode cX2_addOther 175 = .ok (.iload 5, 2) := by decide +kernel
theorem dX2_addOther_177 : decode cX2_addOther 177 = .ok (.invokevirtual 61, 3) := by decide +kernel
theorem dX2_addOther_180 : decode cX2_addOther 180 = .ok (.return_, 1) := by decide +kernel
theorem dX2_firstBroken_0 : decode cX2_firstBroken 0 = .ok (.aload_n 1, 1) := by decide +kernel
theorem dX2_firstBroken_1 : decode cX2_firstBroken 1 = .ok (.getfield 68, 3) := by decide +kernel
theorem dX2_firstBroken_4 : decode cX2_firstBroken 4 = .ok (.aload_n 0, 1) := by decide +kernel
theorem dX2_firstBroken_5 : decode cX2_firstBroken 5 = .ok (.getfield 20, 3) := by decide +kernel
theorem dX2_firstBroken_8 : decode cX2_firstBroken 8 = .ok (.iconst 4, 1) := by decide +kernel
theorem dX2_firstBroken_9 : decode cX2_firstBroken 9 = .ok (.invokevirtual 54, 3) := by decide +kernel
theorem dX2_firstBroken_12 : decode cX2_firstBroken 12 = .ok (.istore 5, 2) := by decide +kernel
theorem dX2_firstBroken_14 : decode cX2_firstBroken 14 = .ok (.aload_n 1, 1) := by decide +kernel
theorem dX2_firstBroken_15 : decode cX2_firstBroken 15 = .ok (.bipush 10, 2) := by decide +kernel
theorem dX2_firstBroken_17 : decode cX2_firstBroken 17 = .ok (.iload_n 3, 1) := by decide +kernel
theorem dX2_firstBroken_18 : decode cX2_firstBroken 18 = .ok (.bipush 60, 2) := by decide +kernel
theorem dX2_firstBroken_20 : decode cX2_firstBroken 20 = .ok (.idiv, 1) := by decide +kernel
theorem dX2_firstBroken_21 : decode cX2_firstBroken 21 = .ok (.iadd, 1) := by decide +kernel
theorem dX2_firstBroken_22 : decode cX2_firstBroken 22 = .ok (.invokevirtual 30, 3) := by decide +kernel
theorem dX2_firstBroken_25 : decode cX2_firstBroken 25 = .ok (.istore 6, 2) := by decide +kernel
theorem dX2_firstBroken_27 : decode cX2_firstBroken 27 = .ok (.iload 4, 2) := by decide +kernel
theorem dX2_firstBroken_29 : decode cX2_firstBroken 29 = .ok (.aload_n 1, 1) := by decide +kernel
theorem dX2_firstBroken_30 : decode cX2_firstBroken 30 = .ok (.getfield 65, 3) := by decide +kernel
theorem dX2_firstBroken_33 : decode cX2_firstBroken 33 = .ok (.iload_n 2, 1) := by decide +kernel
theorem dX2_firstBroken_34 : decode cX2_firstBroken 34 = .ok (.iconst 1, 1) := by decide +kernel
theorem dX2_firstBroken_35 : decode cX2_firstBroken 35 = .ok (.invokevirtual 54, 3) := by decide +kernel
theorem dX2_firstBroken_38 : decode cX2_firstBroken 38 = .ok (.iadd, 1) := by decide +kernel
theorem dX2_firstBroken_39 : decode cX2_firstBroken 39 = .ok (.istore 7, 2) := by decide +kernel
theorem dX2_firstBroken_41 : decode cX2_firstBroken 41 = .ok (.aload_n 0, 1) := by decide +kernel
theorem dX2_firstBroken_42 : decode cX2_firstBroken 42 = .ok (.getfield 24, 3) := by decide +kernel
theorem dX2_firstBroken_45 : decode cX2_firstBroken 45 = .ok (.aload_n 1, 1) := by decide +kernel
theorem dX2_firstBroken_46 : decode cX2_firstBroken 46 = .ok (.getfield 71, 3) := by decide +kernel
theorem dX2_firstBroken_49 : decode cX2_firstBroken 49 = .ok (.if_icmp .ge 13, 3) := by decide +kernel
theorem dX2_firstBroken_52 : decode cX2_firstBroken 52 = .ok (.aload_n 0, 1) := by decide +kernel
theorem dX2_firstBroken_53 : decode cX2_firstBroken 53 = .ok (.iconst 1, 1) := by decide +kernel
theorem dX2_firstBroken_54 : decode cX2_firstBroken 54 = .ok (.aload_n 1, 1) := by decide +kernel
theorem dX2_firstBroken_55 : decode cX2_firstBroken 55 = .ok (.getfield 71, 3) := by decide +kernel
theorem dX2_firstBroken_58 : decode cX2_firstBroken 58 = .ok (.invokevirtual 74, 3) := by decide +kernel
theorem dX2_firstBroken_61 : decode cX2_firstBroken 61 = .ok (.ireturn, 1) := by decide +kernel
theorem dX2_firstBroken_62 : decode cX2_firstBroken 62 = .ok (.aload_n 1, 1) := by decide +kernel
theorem dX2_firstBroken_63 : decode cX2_firstBroken 63 = .ok (.iload_n 2, 1) := by decide +kernel
theorem dX2_firstBroken_64 : decode cX2_firstBroken 64 = .ok (.aload_n 0, 1) := by decide +kernel
theorem dX2_firstBroken_65 : decode cX2_firstBroken 65 = .ok (.getfield 24, 3) := by decide +kernel
theorem dX2_firstBroken_68 : decode cX2_firstBroken 68 = .ok (.invokevirtual 77, 3) := by decide +kernel
theorem dX2_firstBroken_71 : decode cX2_firstBroken 71 = .ok (.ifCond .eq 10, 3) := by decide +kernel
theorem dX2_firstBroken_74 : decode cX2_firstBroken 74 = .ok (.aload_n 0, 1) := by decide +kernel
theorem dX2_firstBroken_75 : decode cX2_firstBroken 75 = .ok (.iconst 2, 1) := by decide +kernel
theorem dX2_firstBroken_76 : decode cX2_firstBroken 76 = .ok (.iload_n 2, 1) := by decide +kernel
theorem dX2_firstBroken_77 : decode cX2_firstBroken 77 = .ok (.invokevirtual 74, 3) := by decide +kernel
theorem dX2_firstBroken_80 : decode cX2_firstBroken 80 = .ok (.ireturn, 1) := by decide +kernel
theorem dX2_firstBroken_81 : decode cX2_firstBroken 81 = .ok (.aload_n 0, 1) := by decide +kernel
theorem dX2_firstBroken_82 : decode cX2_firstBroken 82 = .ok (.getfield 24, 3) := by decide +kernel
theorem dX2_firstBroken_85 : decode cX2_firstBroken 85 = .ok (.iload 5, 2) := by decide +kernel
theorem dX2_firstBroken_87 : decode cX2_firstBroken 87 = .ok (.if_icmp .ge 11, 3) := by decide +kernel
theorem dX2_firstBroken_90 : decode cX2_firstBroken 90 = .ok (.aload_n 0, 1) := by decide +kernel
theorem dX2_firstBroken_91 : decode cX2_firstBroken 91 = .ok (.iconst 3, 1) := by decide +kernel
theorem dX2_firstBroken_92 : decode cX2_firstBroken 92 = .ok (.iload 5, 2) := by decide +kernel
theorem dX2_firstBroken_94 : decode cX2_firstBroken 94 = .ok (.invokevirtual 74, 3) := by decide +kernel
theorem dX2_firstBroken_97 : decode cX2_firstBroken 97 = .ok (.ireturn, 1) := by decide +kernel
theorem dX2_firstBroken_98 : decode cX2_firstBroken 98 = .ok (.aload_n 1, 1) := by decide +kernel
theorem dX2_firstBroken_99 : decode cX2_firstBroken 99 = .ok (.getfield 68, 3) := by decide +kernel
theorem dX2_firstBroken_102 : decode cX2_firstBroken 102 = .ok (.aload_n 0, 1) := by decide +kernel
theorem dX2_firstBroken_103 : decode cX2_firstBroken 103 = .ok (.getfield 20, 3) := by decide +kernel
theorem dX2_firstBroken_106 : decode cX2_firstBroken 106 = .ok (.iconst 1, 1) := by decide +kernel
theorem dX2_firstBroken_107 : decode cX2_firstBroken 107 = .ok (.invokevirtual 54, 3) := by decide +kernel
theorem dX2_firstBroken_110 : decode cX2_firstBroken 110 = .ok (.iload 6, 2) := by decide +kernel
theorem dX2_firstBroken_112 : decode cX2_firstBroken 112 = .ok (.if_icmp .le 11, 3) := by decide +kernel
theorem dX2_firstBroken_115 : decode cX2_firstBroken 115 = .ok (.aload_n 0, 1) := by decide +kernel
theorem dX2_firstBroken_116 : decode cX2_firstBroken 116 = .ok (.iconst 4, 1) := by decide +kernel
theorem dX2_firstBroken_117 : decode cX2_firstBroken 117 = .ok (.iload 6, 2) := by decide +kernel
theorem dX2_firstBroken_119 : decode cX2_firstBroken 119 = .ok (.invokevirtual 74, 3) := by decide +kernel
theorem dX2_firstBroken_122 : decode cX2_firstBroken 122 = .ok (.ireturn, 1) := by decide +kernel
theorem dX2_firstBroken_123 : decode cX2_firstBroken 123 = .ok (.iload 4, 2) := by decide +kernel
theorem dX2_firstBroken_125 : decode cX2_firstBroken 125 = .ok (.sipush 960, 3) := by decide +kernel
theorem dX2_firstBroken_128 : decode cX2_firstBroken 128 = .ok (.if_icmp .le 11, 3) := by decide +kernel
theorem dX2_firstBroken_131 : decode cX2_firstBroken 131 = .ok (.aload_n 0, 1) := by decide +kernel
theorem dX2_firstBroken_132 : decode cX2_firstBroken 132 = .ok (.iconst 5, 1) := by decide +kernel
theorem dX2_firstBroken_133 : decode cX2_firstBroken 133 = .ok (.iload 4, 2) := by decide +kernel
theorem dX2_firstBroken_135 : decode cX2_firstBroken 135 = .ok (.invokevirtual 74, 3) := by decide +kernel
theorem dX2_firstBroken_138 : decode cX2_firstBroken 138 = .ok (.ireturn, 1) := by decide +kernel
theorem dX2_firstBroken_139 : decode cX2_firstBroken 139 = .ok (.aload_n 0, 1) := by decide +kernel
theorem dX2_firstBroken_140 : decode cX2_firstBroken 140 = .ok (.iload_n 2, 1) := by decide +kernel
theorem dX2_firstBroken_141 : decode cX2_firstBroken 141 = .ok (.iload_n 3, 1) := by decide +kernel
theorem dX2_firstBroken_142 : decode cX2_firstBroken 142 = .ok (.iload 7, 2) := by decide +kernel
theorem dX2_firstBroken_144 : decode cX2_firstBroken 144 = .ok (.invokevirtual 80, 3) := by decide +kernel
theorem dX2_firstBroken_147 : decode cX2_firstBroken 147 = .ok (.istore 8, 2) := by decide +kernel
theorem dX2_firstBroken_149 : decode cX2_firstBroken 149 = .ok (.iload 8, 2) := by decide +kernel
theorem dX2_firstBroken_151 : decode cX2_firstBroken 151 = .ok (.iconst (-1), 1) := by decide +kernel
theorem dX2_firstBroken_152 : decode cX2_firstBroken 152 = .ok (.if_icmp .eq 12, 3) := by decide +kernel
theorem dX2_firstBroken_155 : decode cX2_firstBroken 155 = .ok (.aload_n 0, 1) := by decide +kernel
theorem dX2_firstBroken_156 : decode cX2_firstBroken 156 = .ok (.bipush 6, 2) := by decide +kernel
theorem dX2_firstBroken_158 : decode cX2_firstBroken 158 = .ok (.iload 8, 2) := by decide +kernel
theorem dX2_firstBroken_160 : decode cX2_firstBroken 160 = .ok (.invokevirtual 74, 3) := by decide +kernel
theorem dX2_firstBroken_163 : decode cX2_firstBroken 163 = .ok (.ireturn, 1) := by decide +kernel
theorem dX2_firstBroken_164 : decode cX2_firstBroken 164 = .ok (.iload 4, 2) := by decide +kernel
theorem dX2_firstBroken_166 : decode cX2_firstBroken 166 = .ok (.aload_n 1, 1) := by decide +kernel
theorem dX2_firstBroken_167 : decode cX2_firstBroken 167 = .ok (.iconst 2, 1) := by decide +kernel
theorem dX2_firstBroken_168 : decode cX2_firstBroken 168 = .ok (.invokevirtual 30, 3) := by decide +kernel
theorem dX2_firstBroken_171 : decode cX2_firstBroken 171 = .ok (.iadd, 1) := by decide +kernel
theorem dX2_firstBroken_172 : decode cX2_firstBroken 172 = .ok (.istore 9, 2) := by decide +kernel
theorem dX2_firstBroken_174 : decode cX2_firstBroken 174 = .ok (.aload_n 0, 1) := by decide +kernel
theorem dX2_firstBroken_175 : decode cX2_firstBroken 175 = .ok (.iload_n 3, 1) := by decide +kernel
theorem dX2_firstBroken_176 : decode cX2_firstBroken 176 = .ok (.iload 9, 2) := by decide +kernel
theorem dX2_firstBroken_178 : decode cX2_firstBroken 178 = .ok (.aload_n 1, 1) := by decide +kernel
theorem dX2_firstBroken_179 : decode cX2_firstBroken 179 = .ok (.getfield 68, 3) := by decide +kernel
theorem dX2_firstBroken_182 : decode cX2_firstBroken 182 = .ok (.aload_n 0, 1) := by decide +kernel
theorem dX2_firstBroken_183 : decode cX2_firstBroken 183 = .ok (.getfield 20, 3) := by decide +kernel
theorem dX2_firstBroken_186 : decode cX2_firstBroken 186 = .ok (.iconst 3, 1) := by decide +kernel
theorem dX2_firstBroken_187 : decode cX2_firstBroken 187 = .ok (.invokevirtual 54, 3) := by decide +kernel
theorem dX2_firstBroken_190 : decode cX2_firstBroken 190 = .ok (.iconst 3, 1) := by decide +kernel
theorem dX2_firstBroken_191 : decode cX2_firstBroken 191 = .ok (.bipush 6, 2) := by decide +kernel
theorem dX2_firstBroken_193 : decode cX2_firstBroken 193 = .ok (.invokevirtual 84, 3) := by decide +kernel
theorem dX2_firstBroken_196 : decode cX2_firstBroken 196 = .ok (.istore 10, 2) := by decide +kernel
theorem dX2_firstBroken_198 : decode cX2_firstBroken 198 = .ok (.iload 10, 2) := by decide +kernel
theorem dX2_firstBroken_200 : decode cX2_firstBroken 200 = .ok (.iconst (-1), 1) := by decide +kernel
theorem dX2_firstBroken_201 : decode cX2_firstBroken 201 = .ok (.if_icmp .eq 12, 3) := by decide +kernel
theorem dX2_firstBroken_204 : decode cX2_firstBroken 204 = .ok (.aload_n 0, 1) := by decide +kernel
theorem dX2_firstBroken_205 : decode cX2_firstBroken 205 = .ok (.bipush 7, 2) := by decide +kernel
theorem dX2_firstBroken_207 : decode cX2_firstBroken 207 = .ok (.iload 10, 2) := by decide +kernel
theorem dX2_firstBroken_209 : decode cX2_firstBroken 209 = .ok (.invokevirtual 74, 3) := by decide +kernel
theorem dX2_firstBroken_212 : decode cX2_firstBroken 212 = .ok (.ireturn, 1) := by decide +kernel
theorem dX2_firstBroken_213 : decode cX2_firstBroken 213 = .ok (.aload_n 0, 1) := by decide +kernel
theorem dX2_firstBroken_214 : decode cX2_firstBroken 214 = .ok (.aload_n 1, 1) := by decide +kernel
theorem dX2_firstBroken_215 : decode cX2_firstBroken 215 = .ok (.getfield 65, 3) := by decide +kernel
theorem dX2_firstBroken_218 : decode cX2_firstBroken 218 = .ok (.iload_n 2, 1) := by decide +kernel
theorem dX2_firstBroken_219 : decode cX2_firstBroken 219 = .ok (.iconst 2, 1) := by decide +kernel
theorem dX2_firstBroken_220 : decode cX2_firstBroken 220 = .ok (.invokevirtual 54, 3) := by decide +kernel
theorem dX2_firstBroken_223 : decode cX2_firstBroken 223 = .ok (.iload 4, 2) := by decide +kernel
theorem dX2_firstBroken_225 : decode cX2_firstBroken 225 = .ok (.aload_n 1, 1) := by decide +kernel
theorem dX2_firstBroken_226 : decode cX2_firstBroken 226 = .ok (.iconst 0, 1) := by decide +kernel
theorem dX2_firstBroken_227 : decode cX2_firstBroken 227 = .ok (.invokevirtual 30, 3) := by decide +kernel
theorem dX2_firstBroken_230 : decode cX2_firstBroken 230 = .ok (.invokevirtual 88, 3) := by decide +kernel
theorem dX2_firstBroken_233 : decode cX2_firstBroken 233 = .ok (.istore 8, 2) := by decide +kernel
theorem dX2_firstBroken_235 : decode cX2_firstBroken 235 = .ok (.iload 8, 2) := by decide +kernel
theorem dX2_firstBroken_237 : decode cX2_firstBroken 237 = .ok (.iconst (-1), 1) := by decide +kernel
theorem dX2_firstBroken_238 : decode cX2_firstBroken 238 = .ok (.if_icmp .eq 12, 3) := by decide +kernel
theorem dX2_firstBroken_241 : decode cX2_firstBroken 241 = .ok (.aload_n 0, 1) := by decide +kernel
theorem dX2_firstBroken_242 : decode cX2_firstBroken 242 = .ok (.bipush 8, 2) := by decide +kernel
theorem dX2_firstBroken_244 : decode cX2_firstBroken 244 = .ok (.iload 8, 2) := by decide +kernel
theorem dX2_firstBroken_246 : decode cX2_firstBroken 246 = .ok (.invokevirtual 74, 3) := by decide +kernel
theorem dX2_firstBroken_249 : decode cX2_firstBroken 249 = .ok (.ireturn, 1) := by decide +kernel
theorem dX2_firstBroken_250 : decode cX2_firstBroken 250 = .ok (.aload_n 0, 1) := by decide +kernel
theorem dX2_firstBroken_251 : decode cX2_firstBroken 251 = .ok (.iload 4, 2) := by decide +kernel
theorem dX2_firstBroken_253 : decode cX2_firstBroken 253 = .ok (.iload 7, 2) := by decide +kernel
theorem dX2_firstBroken_255 : decode cX2_firstBroken 255 = .ok (.aload_n 1, 1) := by decide +kernel
theorem dX2_firstBroken_256 : decode cX2_firstBroken 256 = .ok (.iconst 1, 1) := by decide +kernel
theorem dX2_firstBroken_257 : decode cX2_firstBroken 257 = .ok (.invokevirtual 30, 3) := by decide +kernel
theorem dX2_firstBroken_260 : decode cX2_firstBroken 260 = .ok (.iconst 4, 1) := by decide +kernel
theorem dX2_firstBroken_261 : decode cX2_firstBroken 261 = .ok (.iconst 5, 1) := by decide +kernel
theorem dX2_firstBroken_262 : decode cX2_firstBroken 262 = .ok (.invokevirtual 84, 3) := by decide +kernel
theorem dX2_firstBroken_265 : decode cX2_firstBroken 265 = .ok (.istore 10, 2) := by decide +kernel
theorem dX2_firstBroken_267 : decode cX2_firstBroken 267 = .ok (.iload 10, 2) := by decide +kernel
theorem dX2_firstBroken_269 : decode cX2_firstBroken 269 = .ok (.iconst (-1), 1) := by decide +kernel
theorem dX2_firstBroken_270 : decode cX2_firstBroken 270 = .ok (.if_icmp .eq 14, 3) := by decide +kernel
theorem dX2_firstBroken_273 : decode cX2_firstBroken 273 = .ok (.aload_n 0, 1) := by decide +kernel
theorem dX2_firstBroken_274 : decode cX2_firstBroken 274 = .ok (.bipush 9, 2) := by decide +kernel
theorem dX2_firstBroken_276 : decode cX2_firstBroken 276 = .ok (.iload 10, 2) := by decide +kernel
theorem dX2_firstBroken_278 : decode cX2_firstBroken 278 = .ok (.invokevirtual 74, 3) := by decide +kernel
theorem dX2_firstBroken_281 : decode cX2_firstBroken 281 = .ok (.goto 9, 3) := by decide +kernel
theorem dX2_firstBroken_284 : decode cX2_firstBroken 284 = .ok (.aload_n 0, 1) := by decide +kernel
theorem dX2_firstBroken_285 : decode cX2_firstBroken 285 = .ok (.iconst 0, 1) := by decide +kernel
theorem dX2_firstBroken_286 : decode cX2_firstBroken 286 = .ok (.iconst (-1), 1) := by decide +kernel
theorem dX2_firstBroken_287 : decode cX2_firstBroken 287 = .ok (.invokevirtual 74, 3) := by decide +kernel
theorem dX2_firstBroken_290 : decode cX2_firstBroken 290 = .ok (.ireturn, 1) := by decide +kernel
theorem dX2_broken_0 : decode cX2_broken 0 = .ok (.aload_n 0, 1) := by decide +kernel
theorem dX2_broken_1 : decode cX2_broken 1 = .ok (.iload_n 2, 1) := by decide +kernel
theorem dX2_broken_2 : decode cX2_broken 2 = .ok (.putfield 27, 3) := by decide +kernel
theorem dX2_broken_5 : decode cX2_broken 5 = .ok (.iload_n 1, 1) := by decide +kernel
theorem dX2_broken_6 : decode cX2_broken 6 = .ok (.ireturn, 1) := by decide +kernel
theorem dX2_firstInTheWay_0 : decode cX2_firstInTheWay 0 = .ok (.iconst 0, 1) := by decide +kernel
theorem dX2_firstInTheWay_1 : decode cX2_firstInTheWay 1 = .ok (.istore 4, 2) := by decide +kernel
theorem dX2_firstInTheWay_3 : decode cX2_firstInTheWay 3 = .ok (.iload 4, 2) := by decide +kernel
theorem dX2_firstInTheWay_5 : decode cX2_firstInTheWay 5 = .ok (.aload_n 0, 1) := by decide +kernel
theorem dX2_firstInTheWay_6 : decode cX2_firstInTheWay 6 = .ok (.getfield 16, 3) := by decide +kernel
theorem dX2_firstInTheWay_9 : decode cX2_firstInTheWay 9 = .ok (.invokevirtual 42, 3) := by decide +kernel
theorem dX2_firstInTheWay_12 : decode cX2_firstInTheWay 12 = .ok (.if_icmp .ge 74, 3) := by decide +kernel
theorem dX2_firstInTheWay_15 : decode cX2_firstInTheWay 15 = .ok (.aload_n 0, 1) := by decide +kernel
theorem dX2_firstInTheWay_16 : decode cX2_firstInTheWay 16 = .ok (.getfield 16, 3) := by decide +kernel
theorem dX2_firstInTheWay_19 : decode cX2_firstInTheWay 19 = .ok (.iload 4, 2) := by decide +kernel
theorem dX2_firstInTheWay_21 : decode cX2_firstInTheWay 21 = .ok (.iconst 3, 1) := by decide +kernel
theorem dX2_firstInTheWay_22 : decode cX2_firstInTheWay 22 = .ok (.invokevirtual 54, 3) := by decide +kernel
theorem dX2_firstInTheWay_25 : decode cX2_firstInTheWay 25 = .ok (.iload_n 3, 1) := by decide +kernel
theorem dX2_firstInTheWay_26 : decode cX2_firstInTheWay 26 = .ok (.if_icmp .ge 21, 3) := by decide +kernel
theorem dX2_firstInTheWay_29 : decode cX2_firstInTheWay 29 = .ok (.iload_n 2, 1) := by decide +kernel
theorem dX2_firstInTheWay_30 : decode cX2_firstInTheWay 30 = .ok (.aload_n 0, 1) := by decide +kernel
theorem dX2_firstInTheWay_31 : decode cX2_firstInTheWay 31 = .ok (.getfield 16, 3) := by decide +kernel
theorem dX2_firstInTheWay_34 : decode cX2_firstInTheWay 34 = .ok (.iload 4, 2) := by decide +kernel
theorem dX2_firstInTheWay_36 : decode cX2_firstInTheWay 36 = .ok (.iconst 5, 1) := by decide +kernel
theorem dX2_firstInTheWay_37 : decode cX2_firstInTheWay 37 = .ok (.invokevirtual 54, 3) := by decide +kernel
theorem dX2_firstInTheWay_40 : decode cX2_firstInTheWay 40 = .ok (.if_icmp .ge 7, 3) := by decide +kernel
theorem dX2_firstInTheWay_43 : decode cX2_firstInTheWay 43 = .ok (.iconst 1, 1) := by decide +kernel
theorem dX2_firstInTheWay_44 : decode cX2_firstInTheWay 44 = .ok (.goto 4, 3) := by decide +kernel
theorem dX2_firstInTheWay_47 : decode cX2_firstInTheWay 47 = .ok (.iconst 0, 1) := by decide +kernel
theorem dX2_firstInTheWay_48 : decode cX2_firstInTheWay 48 = .ok (.istore 5, 2) := by decide +kernel
theorem dX2_firstInTheWay_50 : decode cX2_firstInTheWay 50 = .ok (.iload 5, 2) := by decide +kernel
theorem dX2_firstInTheWay_52 : decode cX2_firstInTheWay 52 = .ok (.ifCond .eq 28, 3) := by decide +kernel
theorem dX2_firstInTheWay_55 : decode cX2_firstInTheWay 55 = .ok (.aload_n 0, 1) := by decide +kernel
theorem dX2_firstInTheWay_56 : decode cX2_firstInTheWay 56 = .ok (.getfield 16, 3) := by decide +kernel
theorem dX2_firstInTheWay_59 : decode cX2_firstInTheWay 59 = .ok (.iload 4, 2) := by decide +kernel
theorem dX2_firstInTheWay_61 : decode cX2_firstInTheWay 61 = .ok (.iconst 1, 1) := by decide +kernel
theorem dX2_firstInTheWay_62 : decode cX2_firstInTheWay 62 = .ok (.invokevirtual 54, 3) := by decide +kernel
theorem dX2_firstInTheWay_65 : decode cX2_firstInTheWay 65 = .ok (.iload_n 1, 1) := by decide +kernel
theorem dX2_firstInTheWay_66 : decode cX2_firstInTheWay 66 = .ok (.if_icmp .ne 14, 3) := by decide +kernel
theorem dX2_firstInTheWay_69 : decode cX2_firstInTheWay 69 = .ok (.aload_n 0, 1) := by decide +kernel
theorem dX2_firstInTheWay_70 : decode cX2_firstInTheWay 70 = .ok (.getfield 16, 3) := by decide +kernel
theorem dX2_firstInTheWay_73 : decode cX2_firstInTheWay 73 = .ok (.iload 4, 2) := by decide +kernel
theorem dX2_firstInTheWay_75 : decode cX2_firstInTheWay 75 = .ok (.iconst 0, 1) := by decide +kernel
theorem dX2_firstInTheWay_76 : decode cX2_firstInTheWay 76 = .ok (.invokevirtual 54, 3) := by decide +kernel
theorem dX2_firstInTheWay_79 : decode cX2_firstInTheWay 79 = .ok (.ireturn, 1) := by decide +kernel
theorem dX2_firstInTheWay_80 : decode cX2_firstInTheWay 80 = .ok (.iinc 4 1, 3) := by decide +kernel
theorem dX2_firstInTheWay_83 : decode cX2_firstInTheWay 83 = .ok (.goto (-80), 3) := by decide +kernel
theorem dX2_firstInTheWay_86 : decode cX2_firstInTheWay 86 = .ok (.iconst (-1), 1) := by decide +kernel
theorem dX2_firstInTheWay_87 : decode cX2_firstInTheWay 87 = .ok (.ireturn, 1) := by decide +kernel
theorem dX2_firstAtExit_0 : decode cX2_firstAtExit 0 = .ok (.iconst 0, 1) := by decide +kernel
theorem dX2_firstAtExit_1 : decode cX2_firstAtExit 1 = .ok (.istore 4, 2) := by decide +kernel
theorem dX2_firstAtExit_3 : decode cX2_firstAtExit 3 = .ok (.iload 4, 2) := by decide +kernel
theorem dX2_firstAtExit_5 : decode cX2_firstAtExit 5 = .ok (.aload_n 0, 1) := by decide +kernel
theorem dX2_firstAtExit_6 : decode cX2_firstAtExit 6 = .ok (.getfield 16, 3) := by decide +kernel
theorem dX2_firstAtExit_9 : decode cX2_firstAtExit 9 = .ok (.invokevirtual 42, 3) := by decide +kernel
theorem dX2_firstAtExit_12 : decode cX2_firstAtExit 12 = .ok (.if_icmp .ge 53, 3) := by decide +kernel
theorem dX2_firstAtExit_15 : decode cX2_firstAtExit 15 = .ok (.aload_n 0, 1) := by decide +kernel
theorem dX2_firstAtExit_16 : decode cX2_firstAtExit 16 = .ok (.getfield 16, 3) := by decide +kernel
theorem dX2_firstAtExit_19 : decode cX2_firstAtExit 19 = .ok (.iload 4, 2) := by decide +kernel
theorem dX2_firstAtExit_21 : decode cX2_firstAtExit 21 = .ok (.iconst 2, 1) := by decide +kernel
theorem dX2_firstAtExit_22 : decode cX2_firstAtExit 22 = .ok (.invokevirtual 54, 3) := by decide +kernel
theorem dX2_firstAtExit_25 : decode cX2_firstAtExit 25 = .ok (.iload_n 1, 1) := by decide +kernel
theorem dX2_firstAtExit_26 : decode cX2_firstAtExit 26 = .ok (.if_icmp .ne 33, 3) := by decide +kernel
theorem dX2_firstAtExit_29 : decode cX2_firstAtExit 29 = .ok (.aload_n 0, 1) := by decide +kernel
theorem dX2_firstAtExit_30 : decode cX2_firstAtExit 30 = .ok (.getfield 16, 3) := by decide +kernel
theorem dX2_firstAtExit_33 : decode cX2_firstAtExit 33 = .ok (.iload 4, 2) := by decide +kernel
theorem dX2_firstAtExit_35 : decode cX2_firstAtExit 35 = .ok (.iconst 4, 1) := by decide +kernel
theorem dX2_firstAtExit_36 : decode cX2_firstAtExit 36 = .ok (.invokevirtual 54, 3) := by decide +kernel
theorem dX2_firstAtExit_39 : decode cX2_firstAtExit 39 = .ok (.iload_n 2, 1) := by decide +kernel
theorem dX2_firstAtExit_40 : decode cX2_firstAtExit 40 = .ok (.isub, 1) := by decide +kernel
theorem dX2_firstAtExit_41 : decode cX2_firstAtExit 41 = .ok (.invokestatic 91, 3) := by decide +kernel
theorem dX2_firstAtExit_44 : decode cX2_firstAtExit 44 = .ok (.iload_n 3, 1) := by decide +kernel
theorem dX2_firstAtExit_45 : decode cX2_firstAtExit 45 = .ok (.if_icmp .ge 14, 3) := by decide +kernel
theorem dX2_firstAtExit_48 : decode cX2_firstAtExit 48 = .ok (.aload_n 0, 1) := by decide +kernel
theorem dX2_firstAtExit_49 : decode cX2_firstAtExit 49 = .ok (.getfield 16, 3) := by decide +kernel
theorem dX2_firstAtExit_52 : decode cX2_firstAtExit 52 = .ok (.iload 4, 2) := by decide +kernel
theorem dX2_firstAtExit_54 : decode cX2_firstAtExit 54 = .ok (.iconst 0, 1) := by decide +kernel
theorem dX2_firstAtExit_55 : decode cX2_firstAtExit 55 = .ok (.invokevirtual 54, 3) := by decide +kernel
theorem dX2_firstAtExit_58 : decode cX2_firstAtExit 58 = .ok (.ireturn, 1) := by decide +kernel
theorem dX2_firstAtExit_59 : decode cX2_firstAtExit 59 = .ok (.iinc 4 1, 3) := by decide +kernel
theorem dX2_firstAtExit_62 : decode cX2_firstAtExit 62 = .ok (.goto (-59), 3) := by decide +kernel
theorem dX2_firstAtExit_65 : decode cX2_firstAtExit 65 = .ok (.iconst (-1), 1) := by decide +kernel
theorem dX2_firstAtExit_66 : decode cX2_firstAtExit 66 = .ok (.ireturn, 1) := by decide +kernel
theorem dX2_firstCrowded_0 : decode cX2_firstCrowded 0 = .ok (.iconst (-1), 1) := by decide +kernel
theorem dX2_firstCrowded_1 : decode cX2_firstCrowded 1 = .ok (.istore 6, 2) := by decide +kernel
theorem dX2_firstCrowded_3 : decode cX2_firstCrowded 3 = .ok (.iconst (-1), 1) := by decide +kernel
theorem dX2_firstCrowded_4 : decode cX2_firstCrowded 4 = .ok (.istore 7, 2) := by decide +kernel
theorem dX2_firstCrowded_6 : decode cX2_firstCrowded 6 = .ok (.iload 7, 2) := by decide +kernel
theorem dX2_firstCrowded_8 : decode cX2_firstCrowded 8 = .ok (.aload_n 0, 1) := by decide +kernel
theorem dX2_firstCrowded_9 : decode cX2_firstCrowded 9 = .ok (.getfield 16, 3) := by decide +kernel
theorem dX2_firstCrowded_12 : decode cX2_firstCrowded 12 = .ok (.invokevirtual 42, 3) := by decide +kernel
theorem dX2_firstCrowded_15 : decode cX2_firstCrowded 15 = .ok (.if_icmp .ge 126, 3) := by decide +kernel
theorem dX2_firstCrowded_18 : decode cX2_firstCrowded 18 = .ok (.iload 7, 2) := by decide +kernel
theorem dX2_firstCrowded_20 : decode cX2_firstCrowded 20 = .ok (.iconst (-1), 1) := by decide +kernel
theorem dX2_firstCrowded_21 : decode cX2_firstCrowded 21 = .ok (.if_icmp .ne 7, 3) := by decide +kernel
theorem dX2_firstCrowded_24 : decode cX2_firstCrowded 24 = .ok (.iload_n 1, 1) := by decide +kernel
theorem dX2_firstCrowded_25 : decode cX2_firstCrowded 25 = .ok (.goto 14, 3) := by decide +kernel
theorem dX2_firstCrowded_28 : decode cX2_firstCrowded 28 = .ok (.aload_n 0, 1) := by decide +kernel
theorem dX2_firstCrowded_29 : decode cX2_firstCrowded 29 = .ok (.getfield 16, 3) := by decide +kernel
theorem dX2_firstCrowded_32 : decode cX2_firstCrowded 32 = .ok (.iload 7, 2) := by decide +kernel
theorem dX2_firstCrowded_34 : decode cX2_firstCrowded 34 = .ok (.iload 4, 2) := by decide +kernel
theorem dX2_firstCrowded_36 : decode cX2_firstCrowded 36 = .ok (.invokevirtual 54, 3) := by decide +kernel
theorem dX2_firstCrowded_39 : decode cX2_firstCrowded 39 = .ok (.istore 8, 2) := by decide +kernel
theorem dX2_firstCrowded_41 : decode cX2_firstCrowded 41 = .ok (.iload 8, 2) := by decide +kernel
theorem dX2_firstCrowded_43 : decode cX2_firstCrowded 43 = .ok (.iload_n 1, 1) := by decide +kernel
theorem dX2_firstCrowded_44 : decode cX2_firstCrowded 44 = .ok (.if_icmp .lt 91, 3) := by decide +kernel
theorem dX2_firstCrowded_47 : decode cX2_firstCrowded 47 = .ok (.iload 8, 2) := by decide +kernel
theorem dX2_firstCrowded_49 : decode cX2_firstCrowded 49 = .ok (.iload_n 2, 1) := by decide +kernel
theorem dX2_firstCrowded_50 : decode cX2_firstCrowded 50 = .ok (.if_icmp .ge 85, 3) := by decide +kernel
theorem dX2_firstCrowded_53 : decode cX2_firstCrowded 53 = .ok (.iload 6, 2) := by decide +kernel
theorem dX2_firstCrowded_55 : decode cX2_firstCrowded 55 = .ok (.iconst (-1), 1) := by decide +kernel
theorem dX2_firstCrowded_56 : decode cX2_firstCrowded 56 = .ok (.if_icmp .eq 10, 3) := by decide +kernel
theorem dX2_firstCrowded_59 : decode cX2_firstCrowded 59 = .ok (.iload 8, 2) := by decide +kernel
theorem dX2_firstCrowded_61 : decode cX2_firstCrowded 61 = .ok (.iload 6, 2) := by decide +kernel
theorem dX2_firstCrowded_63 : decode cX2_firstCrowded 63 = .ok (.if_icmp .ge 72, 3) := by decide +kernel
theorem dX2_firstCrowded_66 : decode cX2_firstCrowded 66 = .ok (.iconst 1, 1) := by decide +kernel
theorem dX2_firstCrowded_67 : decode cX2_firstCrowded 67 = .ok (.istore 9, 2) := by decide +kernel
theorem dX2_firstCrowded_69 : decode cX2_firstCrowded 69 = .ok (.iconst 0, 1) := by decide +kernel
theorem dX2_firstCrowded_70 : decode cX2_firstCrowded 70 = .ok (.istore 10, 2) := by decide +kernel
theorem dX2_firstCrowded_72 : decode cX2_firstCrowded 72 = .ok (.iload 10, 2) := by decide +kernel
theorem dX2_firstCrowded_74 : decode cX2_firstCrowded 74 = .ok (.aload_n 0, 1) := by decide +kernel
theorem dX2_firstCrowded_75 : decode cX2_firstCrowded 75 = .ok (.getfield 16, 3) := by decide +kernel
theorem dX2_firstCrowded_78 : decode cX2_firstCrowded 78 = .ok (.invokevirtual 42, 3) := by decide +kernel
theorem dX2_firstCrowded_81 : decode cX2_firstCrowded 81 = .ok (.if_icmp .ge 44, 3) := by decide +kernel
theorem dX2_firstCrowded_84 : decode cX2_firstCrowded 84 = .ok (.aload_n 0, 1) := by decide +kernel
theorem dX2_firstCrowded_85 : decode cX2_firstCrowded 85 = .ok (.getfield 16, 3) := by decide +kernel
theorem dX2_firstCrowded_88 : decode cX2_firstCrowded 88 = .ok (.iload 10, 2) := by decide +kernel
theorem dX2_firstCrowded_90 : decode cX2_firstCrowded 90 = .ok (.iload 4, 2) := by decide +kernel
theorem dX2_firstCrowded_92 : decode cX2_firstCrowded 92 = .ok (.invokevirtual 54, 3) := by decide +kernel
theorem dX2_firstCrowded_95 : decode cX2_firstCrowded 95 = .ok (.iload 8, 2) := by decide +kernel
theorem dX2_firstCrowded_97 : decode cX2_firstCrowded 97 = .ok (.if_icmp .gt 22, 3) := by decide +kernel
theorem dX2_firstCrowded_100 : decode cX2_firstCrowded 100 = .ok (.iload 8, 2) := by decide +kernel
theorem dX2_firstCrowded_102 : decode cX2_firstCrowded 102 = .ok (.aload_n 0, 1) := by decide +kernel
theorem dX2_firstCrowded_103 : decode cX2_firstCrowded 103 = .ok (.getfield 16, 3) := by decide +kernel
theorem dX2_firstCrowded_106 : decode cX2_firstCrowded 106 = .ok (.iload 10, 2) := by decide +kernel
theorem dX2_firstCrowded_108 : decode cX2_firstCrowded 108 = .ok (.iload 5, 2) := by decide +kernel
theorem dX2_firstCrowded_110 : decode cX2_firstCrowded 110 = .ok (.invokevirtual 54, 3) := by decide +kernel
theorem dX2_firstCrowded_113 : decode cX2_firstCrowded 113 = .ok (.if_icmp .ge 6, 3) := by decide +kernel
theorem dX2_firstCrowded_116 : decode cX2_firstCrowded 116 = .ok (.iinc 9 1, 3) := by decide +kernel
theorem dX2_firstCrowded_119 : decode cX2_firstCrowded 119 = .ok (.iinc 10 1, 3) := by decide +kernel
theorem dX2_firstCrowded_122 : decode cX2_firstCrowded 122 = .ok (.goto (-50), 3) := by decide +kernel
theorem dX2_firstCrowded_125 : decode cX2_firstCrowded 125 = .ok (.iload 9, 2) := by decide +kernel
theorem dX2_firstCrowded_127 : decode cX2_firstCrowded 127 = .ok (.iload_n 3, 1) := by decide +kernel
theorem dX2_firstCrowded_128 : decode cX2_firstCrowded 128 = .ok (.if_icmp .le 7, 3) := by decide +kernel
theorem dX2_firstCrowded_131 : decode cX2_firstCrowded 131 = .ok (.iload 8, 2) := by decide +kernel
theorem dX2_firstCrowded_133 : decode cX2_firstCrowded 133 = .ok (.istore 6, 2) := by decide +kernel
theorem dX2_firstCrowded_135 : decode cX2_firstCrowded 135 = .ok (.iinc 7 1, 3) := by decide +kernel
theorem dX2_firstCrowded_138 : decode cX2_firstCrowded 138 = .ok (.goto (-132), 3) := by decide +kernel
theorem dX2_firstCrowded_141 : decode cX2_firstCrowded 141 = .ok (.iload 6, 2) := by decide +kernel
theorem dX2_firstCrowded_143 : decode cX2_firstCrowded 143 = .ok (.ireturn, 1) := by decide +kernel
theorem dX3_init_0 : decode cX3_init 0 = .ok (.aload_n 0, 1) := by decide +kernel
theorem dX3_init_1 : decode cX3_init 1 = .ok (.invokespecial 3, 3) := by decide +kernel
theorem dX3_init_4 : decode cX3_init 4 = .ok (.aload_n 0, 1) := by decide +kernel
theorem dX3_init_5 : decode cX3_init 5 = .ok (.new 9, 3) := by decide +kernel
theorem dX3_init_8 : decode cX3_init 8 = .ok (.dup, 1) := by decide +kernel
theorem dX3_init_9 : decode cX3_init 9 = .ok (.bipush 6, 2) := by decide +kernel
theorem dX3_init_11 : decode cX3_init 11 = .ok (.iconst 4, 1) := by decide +kernel
theorem dX3_init_12 : decode cX3_init 12 = .ok (.invokespecial 11, 3) := by decide +kernel
theorem dX3_init_15 : decode cX3_init 15 = .ok (.putfield 14, 3) := by decide +kernel
theorem dX3_init_18 : decode cX3_init 18 = .ok (.aload_n 0, 1) := by decide +kernel
theorem dX3_init_19 : decode cX3_init 19 = .ok (.new 9, 3) := by decide +kernel
theorem dX3_init_22 : decode cX3_init 22 = .ok (.dup, 1) := by decide +kernel
theorem dX3_init_23 : decode cX3_init 23 = .ok (.bipush 8, 2) := by decide +kernel
theorem dX3_init_25 : decode cX3_init 25 = .ok (.bipush 12, 2) := by decide +kernel
theorem dX3_init_27 : decode cX3_init 27 = .ok (.invokespecial 11, 3) := by decide +kernel
theorem dX3_init_30 : decode cX3_init 30 = .ok (.putfield 20, 3) := by decide +kernel
theorem dX3_init_33 : decode cX3_init 33 = .ok (.aload_n 0, 1) := by decide +kernel
theorem dX3_init_34 : decode cX3_init 34 = .ok (.new 9, 3) := by decide +kernel
theorem dX3_init_37 : decode cX3_init 37 = .ok (.dup, 1) := by decide +kernel
theorem dX3_init_38 : decode cX3_init 38 = .ok (.bipush 10, 2) := by decide +kernel
theorem dX3_init_40 : decode cX3_init 40 = .ok (.iconst 4, 1) := by decide +kernel
theorem dX3_init_41 : decode cX3_init 41 = .ok (.invokespecial 11, 3) := by decide +kernel
theorem dX3_init_44 : decode cX3_init 44 = .ok (.putfield 23, 3) := by decide +kernel
theorem dX3_init_47 : decode cX3_init 47 = .ok (.aload_n 0, 1) := by decide +kernel
theorem dX3_init_48 : decode cX3_init 48 = .ok (.new 9, 3) := by decide +kernel
theorem dX3_init_51 : decode cX3_init 51 = .ok (.dup, 1) := by decide +kernel
theorem dX3_init_52 : decode cX3_init 52 = .ok (.bipush 30, 2) := by decide +kernel
theorem dX3_init_54 : decode cX3_init 54 = .ok (.bipush 12, 2) := by decide +kernel
theorem dX3_init_56 : decode cX3_init 56 = .ok (.invokespecial 11, 3) := by decide +kernel
theorem dX3_init_59 : decode cX3_init 59 = .ok (.putfield 26, 3) := by decide +kernel
theorem dX3_init_62 : decode cX3_init 62 = .ok (.aload_n 0, 1) := by decide +kernel
theorem dX3_init_63 : decode cX3_init 63 = .ok (.new 9, 3) := by decide +kernel
theorem dX3_init_66 : decode cX3_init 66 = .ok (.dup, 1) := by decide +kernel
theorem dX3_init_67 : decode cX3_init 67 = .ok (.bipush 30, 2) := by decide +kernel
theorem dX3_init_69 : decode cX3_init 69 = .ok (.iconst 5, 1) := by decide +kernel
theorem dX3_init_70 : decode cX3_init 70 = .ok (.invokespecial 11, 3) := by decide +kernel
theorem dX3_init_73 : decode cX3_init 73 = .ok (.putfield 29, 3) := by decide +kernel
theorem dX3_init_76 : decode cX3_init 76 = .ok (.aload_n 0, 1) := by decide +kernel
theorem dX3_init_77 : decode cX3_init 77 = .ok (.new 9, 3) := by decide +kernel
theorem dX3_init_80 : decode cX3_init 80 = .ok (.dup, 1) := by decide +kernel
theorem dX3_init_81 : decode cX3_init 81 = .ok (.iconst 1, 1) := by decide +kernel
theorem dX3_init_82 : decode cX3_init 82 = .ok (.bipush 26, 2) := by decide +kernel
theorem dX3_init_84 : decode cX3_init 84 = .ok (.invokespecial 11, 3) := by decide +kernel
theorem dX3_init_87 : decode cX3_init 87 = .ok (.putfield 32, 3) := by decide +kernel
theorem dX3_init_90 : decode cX3_init 90 = .ok (.aload_n 0, 1) := by decide +kernel
theorem dX3_init_91 : decode cX3_init 91 = .ok (.iconst 0, 1) := by decide +kernel
theorem dX3_init_92 : decode cX3_init 92 = .ok (.putfield 35, 3) := by decide +kernel
theorem dX3_init_95 : decode cX3_init 95 = .ok (.aload_n 0, 1) := by decide +kernel
theorem dX3_init_96 : decode cX3_init 96 = .ok (.iconst 0, 1) := by decide +kernel
theorem dX3_init_97 : decode cX3_init 97 = .ok (.putfield 39, 3) := by decide +kernel
theorem dX3_init_100 : decode cX3_init 100 = .ok (.iconst 0, 1) := by decide +kernel
theorem dX3_init_101 : decode cX3_init 101 = .ok (.istore_n 1, 1) := by decide +kernel
theorem dX3_init_102 : decode cX3_init 102 = .ok (.iload_n 1, 1) := by decide +kernel
theorem dX3_init_103 : decode cX3_init 103 = .ok (.getstatic 42, 3) := by decide +kernel
theorem dX3_init_106 : decode cX3_init 106 = .ok (.arraylength, 1) := by decide +kernel
theorem dX3_init_107 : decode cX3_init 107 = .ok (.if_icmp .ge 23, 3) := by decide +kernel
theorem dX3_init_110 : decode cX3_init 110 = .ok (.aload_n 0, 1) := by decide +kernel
theorem dX3_init_111 : decode cX3_init 111 = .ok (.getfield 32, 3) := by decide +kernel
theorem dX3_init_114 : decode cX3_init 114 = .ok (.iconst 0, 1) := by decide +kernel
theorem dX3_init_115 : decode cX3_init 115 = .ok (.iload_n 1, 1) := by decide +kernel
theorem dX3_init_116 : decode cX3_init 116 = .ok (.getstatic 42, 3) := by decide +kernel
theorem dX3_init_119 : decode cX3_init 119 = .ok (.iload_n 1, 1) := by decide +kernel
theorem dX3_init_120 : decode cX3_init 120 = .ok (.iaload, 1) := by decide +kernel
theorem dX3_init_121 : decode cX3_init 121 = .ok (.invokevirtual 46, 3) := by decide +kernel
theorem dX3_init_124 : decode cX3_init 124 = .ok (.iinc 1 1, 3) := by decide +kernel
theorem dX3_init_127 : decode cX3_init 127 = .ok (.goto (-25), 3) := by decide +kernel
theorem dX3_init_130 : decode cX3_init 130 = .ok (.iconst 0, 1) := by decide +kernel
theorem dX3_init_131 : decode cX3_init 131 = .ok (.istore_n 1, 1) := by decide +kernel
theorem dX3_init_132 : decode cX3_init 132 = .ok (.iload_n 1, 1) := by decide +kernel
theorem dX3_init_133 : decode cX3_init 133 = .ok (.bipush 16, 2) := by decide +kernel
theorem dX3_init_135 : decode cX3_init 135 = .ok (.if_icmp .ge 22, 3) := by decide +kernel
theorem dX3_init_138 : decode cX3_init 138 = .ok (.aload_n 0, 1) := by decide +kernel
theorem dX3_init_139 : decode cX3_init 139 = .ok (.getfield 32, 3) := by decide +kernel
theorem dX3_init_142 : decode cX3_init 142 = .ok (.iconst 0, 1) := by decide +kernel
theorem dX3_init_143 : decode cX3_init 143 = .ok (.bipush 10, 2) := by decide +kernel
theorem dX3_init_145 : decode cX3_init 145 = .ok (.iload_n 1, 1) := by decide +kernel
theorem dX3_init_146 : decode cX3_init 146 = .ok (.iadd, 1) := by decide +kernel
theorem dX3_init_147 : decode cX3_init 147 = .ok (.iconst 3, 1) := by decide +kernel
theorem dX3_init_148 : decode cX3_init 148 = .ok (.invokevirtual 46, 3) := by decide +kernel
theorem dX3_init_151 : decode cX3_init 151 = .ok (.iinc 1 1, 3) := by decide +kernel
theorem dX3_init_154 : decode cX3_init 154 = .ok (.goto (-22), 3) := by decide +kernel
theorem dX3_init_157 : decode cX3_init 157 = .ok (.return_, 1) := by decide +kernel
theorem dX3_copyFrom_0 : decode cX3_copyFrom 0 = .ok (.aload_n 0, 1) := by decide +kernel
theorem dX3_copyFrom_1 : decode cX3_copyFrom 1 = .ok (.getfield 14, 3) := by decide +kernel
theorem dX3_copyFrom_4 : decode cX3_copyFrom 4 = .ok (.aload_n 1, 1) := by decide +kernel
theorem dX3_copyFrom_5 : decode cX3_copyFrom 5 = .ok (.getfield 14, 3) := by decide +kernel
theorem dX3_copyFrom_8 : decode cX3_copyFrom 8 = .ok (.invokevirtual 50, 3) := by decide +kernel
theorem dX3_copyFrom_11 : decode cX3_copyFrom 11 = .ok (.aload_n 0, 1) := by decide +kernel
theorem dX3_copyFrom_12 : decode cX3_copyFrom 12 = .ok (.getfield 20, 3) := by decide +kernel
theorem dX3_copyFrom_15 : decode cX3_copyFrom 15 = .ok (.aload_n 1, 1) := by decide +kernel
theorem dX3_copyFrom_16 : decode cX3_copyFrom 16 = .ok (.getfield 20, 3) := by decide +kernel
theorem dX3_copyFrom_19 : decode cX3_copyFrom 19 = .ok (.invokevirtual 50, 3) := by decide +kernel
theorem dX3_copyFrom_22 : decode cX3_copyFrom 22 = .ok (.aload_n 0, 1) := by decide +kernel
theorem dX3_copyFrom_23 : decode cX3_copyFrom 23 = .ok (.getfield 23, 3) := by decide +kernel
theorem dX3_copyFrom_26 : decode cX3_copyFrom 26 = .ok (.aload_n 1, 1) := by decide +kernel
theorem dX3_copyFrom_27 : decode cX3_copyFrom 27 = .ok (.getfield 23, 3) := by decide +kernel
theorem dX3_copyFrom_30 : decode cX3_copyFrom 30 = .ok (.invokevirtual 50, 3) := by decide +kernel
theorem dX3_copyFrom_33 : decode cX3_copyFrom 33 = .ok (.aload_n 0, 1) := by decide +kernel
theorem dX3_copyFrom_34 : decode cX3_copyFrom 34 = .ok (.getfield 26, 3) := by decide +kernel
theorem dX3_copyFrom_37 : decode cX3_copyFrom 37 = .ok (.aload_n 1, 1) := by decide +kernel
theorem dX3_copyFrom_38 : decode cX3_copyFrom 38 = .ok (.getfield 26, 3) := by decide +kernel
theorem dX3_copyFrom_41 : decode cX3_copyFrom 41 = .ok (.invokevirtual 50, 3) := by decide +kernel
theorem dX3_copyFrom_44 : decode cX3_copyFrom 44 = .ok (.aload_n 0, 1) := by decide +kernel
theorem dX3_copyFrom_45 : decode cX3_copyFrom 45 = .ok (.getfield 29, 3) := by decide +kernel
theorem dX3_copyFrom_48 : decode cX3_copyFrom 48 = .ok (.aload_n 1, 1) := by decide +kernel
theorem dX3_copyFrom_49 : decode cX3_copyFrom 49 = .ok (.getfield 29, 3) := by decide +kernel
theorem dX3_copyFrom_52 : decode cX3_copyFrom 52 = .ok (.invokevirtual 50, 3) := by decide +kernel
theorem dX3_copyFrom_55 : decode cX3_copyFrom 55 = .ok (.aload_n 0, 1) := by decide +kernel
theorem dX3_copyFrom_56 : decode cX3_copyFrom 56 = .ok (.getfield 32, 3) := by decide +kernel
theorem dX3_copyFrom_59 : decode cX3_copyFrom 59 = .ok (.aload_n 1, 1) := by decide +kernel
theorem dX3_copyFrom_60 : decode cX3_copyFrom 60 = .ok (.getfield 32, 3) := by decide +kernel
theorem dX3_copyFrom_63 : decode cX3_copyFrom 63 = .ok (.invokevirtual 50, 3) := by decide +kernel
theorem dX3_copyFrom_66 : decode cX3_copyFrom 66 = .ok (.aload_n 0, 1) := by decide +kernel
theorem dX3_copyFrom_67 : decode cX3_copyFrom 67 = .ok (.aload_n 1, 1) := by decide +kernel
theorem dX3_copyFrom_68 : decode cX3_copyFrom 68 = .ok (.getfield 35, 3) := by decide +kernel
theorem dX3_copyFrom_71 : decode cX3_copyFrom 71 = .ok (.putfield 35, 3) := by decide +kernel
theorem dX3_copyFrom_74 : decode cX3_copyFrom 74 = .ok (.aload_n 0, 1) := by decide +kernel
theorem dX3_copyFrom_75 : decode cX3_copyFrom 75 = .ok (.aload_n 1, 1) := by decide +kernel
theorem dX3_copyFrom_76 : decode cX3_copyFrom 76 = .ok (.getfield 39, 3) := by decide +kernel
theorem dX3_copyFrom_79 : decode cX3_copyFrom 79 = .ok (.putfield 39, 3) := by decide +kernel
theorem dX3_copyFrom_82 : decode cX3_copyFrom 82 = .ok (.return_, 1) := by decide +kernel
theorem dX3_settingOf_0 : decode cX3_settingOf 0 = .ok (.aload_n 0, 1) := by decide +kernel
theorem dX3_settingOf_1 : decode cX3_settingOf 1 = .ok (.getfield 32, 3) := by decide +kernel
theorem dX3_settingOf_4 : decode cX3_settingOf 4 = .ok (.iconst 0, 1) := by decide +kernel
theorem dX3_settingOf_5 : decode cX3_settingOf 5 = .ok (.iload_n 1, 1) := by decide +kernel
theorem dX3_settingOf_6 : decode cX3_settingOf 6 = .ok (.invokevirtual 54, 3) := by decide +kernel
theorem dX3_settingOf_9 : decode cX3_settingOf 9 = .ok (.ireturn, 1) := by decide +kernel
theorem dX3_exchangeSetting_0 : decode cX3_exchangeSetting 0 = .ok (.aload_n 0, 1) := by decide +kernel
theorem dX3_exchangeSetting_1 : decode cX3_exchangeSetting 1 = .ok (.getfield 32, 3) := by decide +kernel
theorem dX3_exchangeSetting_4 : decode cX3_exchangeSetting 4 = .ok (.iconst 0, 1) := by decide +kernel
theorem dX3_exchangeSetting_5 : decode cX3_exchangeSetting 5 = .ok (.iload_n 1, 1) := by decide +kernel
theorem dX3_exchangeSetting_6 : decode cX3_exchangeSetting 6 = .ok (.invokevirtual 54, 3) := by decide +kernel
theorem dX3_exchangeSetting_9 : decode cX3_exchangeSetting 9 = .ok (.istore_n 3, 1) := by decide +kernel
theorem dX3_exchangeSetting_10 : decode cX3_exchangeSetting 10 = .ok (.aload_n 0, 1) := by decide +kernel
theorem dX3_exchangeSetting_11 : decode cX3_exchangeSetting 11 = .ok (.getfield 32, 3) := by decide +kernel
theorem dX3_exchangeSetting_14 : decode cX3_exchangeSetting 14 = .ok (.iconst 0, 1) := by decide +kernel
theorem dX3_exchangeSetting_15 : decode cX3_exchangeSetting 15 = .ok (.iload_n 1, 1) := by decide +kernel
theorem dX3_exchangeSetting_16 : decode cX3_exchangeSetting 16 = .ok (.iload_n 2, 1) := by decide +kernel
theorem dX3_exchangeSetting_17 : decode cX3_exchangeSetting 17 = .ok (.invokevirtual 46, 3) := by decide +kernel
theorem dX3_exchangeSetting_20 : decode cX3_exchangeSetting 20 = .ok (.iload_n 3, 1) := by decide +kernel
theorem dX3_exchangeSetting_21 : decode cX3_exchangeSetting 21 = .ok (.ireturn, 1) := by decide +kernel
theorem dX3_isClosed_0 : decode cX3_isClosed 0 = .ok (.aload_n 0, 1) := by decide +kernel
theorem dX3_isClosed_1 : decode cX3_isClosed 1 = .ok (.getfield 14, 3) := by decide +kernel
theorem dX3_isClosed_4 : decode cX3_isClosed 4 = .ok (.iload_n 1, 1) := by decide +kernel
theorem dX3_isClosed_5 : decode cX3_isClosed 5 = .ok (.iconst 3, 1) := by decide +kernel
theorem dX3_isClosed_6 : decode cX3_isClosed 6 = .ok (.invokevirtual 54, 3) := by decide +kernel
theorem dX3_isClosed_9 : decode cX3_isClosed 9 = .ok (.istore_n 3, 1) := by decide +kernel
theorem dX3_isClosed_10 : decode cX3_isClosed 10 = .ok (.iload_n 3, 1) := by decide +kernel
theorem dX3_isClosed_11 : decode cX3_isClosed 11 = .ok (.iconst (-1), 1) := by decide +kernel
theorem dX3_isClosed_12 : decode cX3_isClosed 12 = .ok (.if_icmp .eq 12, 3) := by decide +kernel
theorem dX3_isClosed_15 : decode cX3_isClosed 15 = .ok (.iload_n 2, 1) := by decide +kernel
theorem dX3_isClosed_16 : decode cX3_isClosed 16 = .ok (.iload_n 3, 1) := by decide +kernel
theorem dX3_isClosed_17 : decode cX3_isClosed 17 = .ok (.if_icmp .lt 7, 3) := by decide +kernel
theorem dX3_isClosed_20 : decode cX3_isClosed 20 = .ok (.iconst 1, 1) := by decide +kernel
theorem dX3_isClosed_21 : decode cX3_isClosed 21 = .ok (.goto 4, 3) := by decide +kernel
theorem dX3_isClosed_24 : decode cX3_isClosed 24 = .ok (.iconst 0, 1) := by decide +kernel
theorem dX3_isClosed_25 : decode cX3_isClosed 25 = .ok (.ireturn, 1) := by decide +kernel
theorem dX3_shareOn_0 : decode cX3_shareOn 0 = .ok (.iload_n 2, 1) := by decide +kernel
theorem dX3_shareOn_1 : decode cX3_shareOn 1 = .ok (.aload_n 0, 1) := by decide +kernel
theorem dX3_shareOn_2 : decode cX3_shareOn 2 = .ok (.getfield 20, 3) := by decide +kernel
theorem dX3_shareOn_5 : decode cX3_shareOn 5 = .ok (.iload_n 1, 1) := by decide +kernel
theorem dX3_shareOn_6 : decode cX3_shareOn 6 = .ok (.iconst 4, 1) := by decide +kernel
theorem dX3_shareOn_7 : decode cX3_shareOn 7 = .ok (.invokevirtual 54, 3) := by decide +kernel
theorem dX3_shareOn_10 : decode cX3_shareOn 10 = .ok (.isub, 1) := by decide +kernel
theorem dX3_shareOn_11 : decode cX3_shareOn 11 = .ok (.bipush 7, 2) := by decide +kernel
theorem dX3_shareOn_13 : decode cX3_shareOn 13 = .ok (.idiv, 1) := by decide +kernel
theorem dX3_shareOn_14 : decode cX3_shareOn 14 = .ok (.istore_n 3, 1) := by decide +kernel
theorem dX3_shareOn_15 : decode cX3_shareOn 15 = .ok (.aload_n 0, 1) := by decide +kernel
theorem dX3_shareOn_16 : decode cX3_shareOn 16 = .ok (.getfield 20, 3) := by decide +kernel
theorem dX3_shareOn_19 : decode cX3_shareOn 19 = .ok (.iload_n 1, 1) := by decide +kernel
theorem dX3_shareOn_20 : decode cX3_shareOn 20 = .ok (.bipush 9, 2) := by decide +kernel
theorem dX3_shareOn_22 : decode cX3_shareOn 22 = .ok (.invokevirtual 54, 3) := by decide +kernel
theorem dX3_shareOn_25 : decode cX3_shareOn 25 = .ok (.aload_n 0, 1) := by decide +kernel
theorem dX3_shareOn_26 : decode cX3_shareOn 26 = .ok (.getfield 20, 3) := by decide +kernel
theorem dX3_shareOn_29 : decode cX3_shareOn 29 = .ok (.iload_n 1, 1) := by decide +kernel
theorem dX3_shareOn_30 : decode cX3_shareOn 30 = .ok (.bipush 10, 2) := by decide +kernel
theorem dX3_shareOn_32 : decode cX3_shareOn 32 = .ok (.invokevirtual 54, 3) := by decide +kernel
theorem dX3_shareOn_35 : decode cX3_shareOn 35 = .ok (.iload_n 3, 1) := by decide +kernel
theorem dX3_shareOn_36 : decode cX3_shareOn 36 = .ok (.imul, 1) := by decide +kernel
theorem dX3_shareOn_37 : decode cX3_shareOn 37 = .ok (.isub, 1) := by decide +kernel
theorem dX3_shareOn_38 : decode cX3_shareOn 38 = .ok (.istore 4, 2) := by decide +kernel
theorem dX3_shareOn_40 : decode cX3_shareOn 40 = .ok (.iload 4, 2) := by decide +kernel
theorem dX3_shareOn_42 : decode cX3_shareOn 42 = .ok (.aload_n 0, 1) := by decide +kernel
theorem dX3_shareOn_43 : decode cX3_shareOn 43 = .ok (.getfield 20, 3) := by decide +kernel
theorem dX3_shareOn_46 : decode cX3_shareOn 46 = .ok (.iload_n 1, 1) := by decide +kernel
theorem dX3_shareOn_47 : decode cX3_shareOn 47 = .ok (.bipush 11, 2) := by decide +kernel
theorem dX3_shareOn_49 : decode cX3_shareOn 49 = .ok (.invokevirtual 54, 3) := by decide +kernel
theorem dX3_shareOn_52 : decode cX3_shareOn 52 = .ok (.invokestatic 58, 3) := by decide +kernel
theorem dX3_shareOn_55 : decode cX3_shareOn 55 = .ok (.ireturn, 1) := by decide +kernel
theorem dX3_isFitting_0 : decode cX3_isFitting 0 = .ok (.aload_n 0, 1) := by decide +kernel
theorem dX3_isFitting_1 : decode cX3_isFitting 1 = .ok (.getfield 23, 3) := by decide +kernel
theorem dX3_isFitting_4 : decode cX3_isFitting 4 = .ok (.iload_n 1, 1) := by decide +kernel
theorem dX3_isFitting_5 : decode cX3_isFitting 5 = .ok (.iconst 0, 1) := by decide +kernel
theorem dX3_isFitting_6 : decode cX3_isFitting 6 = .ok (.invokevirtual 54, 3) := by decide +kernel
theorem dX3_isFitting_9 : decode cX3_isFitting 9 = .ok (.istore 4, 2) := by decide +kernel
theorem dX3_isFitting_11 : decode cX3_isFitting 11 = .ok (.iload 4, 2) := by decide +kernel
theorem dX3_isFitting_13 : decode cX3_isFitting 13 = .ok (.iload_n 2, 1) := by decide +kernel
theorem dX3_isFitting_14 : decode cX3_isFitting 14 = .ok (.if_icmp .eq 64, 3) := by decide +kernel
theorem dX3_isFitting_17 : decode cX3_isFitting 17 = .ok (.aload_n 0, 1) := by decide +kernel
theorem dX3_isFitting_18 : decode cX3_isFitting 18 = .ok (.getfield 20, 3) := by decide +kernel
theorem dX3_isFitting_21 : decode cX3_isFitting 21 = .ok (.iload 4, 2) := by decide +kernel
theorem dX3_isFitting_23 : decode cX3_isFitting 23 = .ok (.iconst 4, 1) := by decide +kernel
theorem dX3_isFitting_24 : decode cX3_isFitting 24 = .ok (.invokevirtual 54, 3) := by decide +kernel
theorem dX3_isFitting_27 : decode cX3_isFitting 27 = .ok (.iload_n 3, 1) := by decide +kernel
theorem dX3_isFitting_28 : decode cX3_isFitting 28 = .ok (.if_icmp .le 50, 3) := by decide +kernel
theorem dX3_isFitting_31 : decode cX3_isFitting 31 = .ok (.aload_n 0, 1) := by decide +kernel
theorem dX3_isFitting_32 : decode cX3_isFitting 32 = .ok (.getfield 23, 3) := by decide +kernel
theorem dX3_isFitting_35 : decode cX3_isFitting 35 = .ok (.iload_n 1, 1) := by decide +kernel
theorem dX3_isFitting_36 : decode cX3_isFitting 36 = .ok (.iconst 2, 1) := by decide +kernel
theorem dX3_isFitting_37 : decode cX3_isFitting 37 = .ok (.invokevirtual 54, 3) := by decide +kernel
theorem dX3_isFitting_40 : decode cX3_isFitting 40 = .ok (.aload_n 0, 1) := by decide +kernel
theorem dX3_isFitting_41 : decode cX3_isFitting 41 = .ok (.getfield 20, 3) := by decide +kernel
theorem dX3_isFitting_44 : decode cX3_isFitting 44 = .ok (.iload_n 2, 1) := by decide +kernel
theorem dX3_isFitting_45 : decode cX3_isFitting 45 = .ok (.iconst 1, 1) := by decide +kernel
theorem dX3_isFitting_46 : decode cX3_isFitting 46 = .ok (.invokevirtual 54, 3) := by decide +kernel
theorem dX3_isFitting_49 : decode cX3_isFitting 49 = .ok (.if_icmp .gt 29, 3) := by decide +kernel
theorem dX3_isFitting_52 : decode cX3_isFitting 52 = .ok (.aload_n 0, 1) := by decide +kernel
theorem dX3_isFitting_53 : decode cX3_isFitting 53 = .ok (.getfield 23, 3) := by decide +kernel
theorem dX3_isFitting_56 : decode cX3_isFitting 56 = .ok (.iload_n 1, 1) := by decide +kernel
theorem dX3_isFitting_57 : decode cX3_isFitting 57 = .ok (.iconst 3, 1) := by decide +kernel
theorem dX3_isFitting_58 : decode cX3_isFitting 58 = .ok (.invokevirtual 54, 3) := by decide +kernel
theorem dX3_isFitting_61 : decode cX3_isFitting 61 = .ok (.aload_n 0, 1) := by decide +kernel
theorem dX3_isFitting_62 : decode cX3_isFitting 62 = .ok (.getfield 20, 3) := by decide +kernel
theorem dX3_isFitting_65 : decode cX3_isFitting 65 = .ok (.iload_n 2, 1) := by decide +kernel
theorem dX3_isFitting_66 : decode cX3_isFitting 66 = .ok (.iconst 2, 1) := by decide +kernel
theorem dX3_isFitting_67 : decode cX3_isFitting 67 = .ok (.invokevirtual 54, 3) := by decide +kernel
theorem dX3_isFitting_70 : decode cX3_isFitting 70 = .ok (.iand, 1) := by decide +kernel
theorem dX3_isFitting_71 : decode cX3_isFitting 71 = .ok (.ifCond .eq 7, 3) := by decide +kernel
theorem dX3_isFitting_74 : decode cX3_isFitting 74 = .ok (.iconst 1, 1) := by decide +kernel
theorem dX3_isFitting_75 : decode cX3_isFitting 75 = .ok (.goto 4, 3) := by decide +kernel
theorem dX3_isFitting_78 : decode cX3_isFitting 78 = .ok (.iconst 0, 1) := by decide +kernel
theorem dX3_isFitting_79 : decode cX3_isFitting 79 = .ok (.ireturn, 1) := by decide +kernel
theorem dX3_reelMinutes_0 : decode cX3_reelMinutes 0 = .ok (.iconst 0, 1) := by decide +kernel
theorem dX3_reelMinutes_1 : decode cX3_reelMinutes 1 = .ok (.istore_n 2, 1) := by decide +kernel
theorem dX3_reelMinutes_2 : decode cX3_reelMinutes 2 = .ok (.iconst 0, 1) := by decide +kernel
theorem dX3_reelMinutes_3 : decode cX3_reelMinutes 3 = .ok (.istore_n 3, 1) := by decide +kernel
theorem dX3_reelMinutes_4 : decode cX3_reelMinutes 4 = .ok (.iload_n 3, 1) := by decide +kernel
theorem dX3_reelMinutes_5 : decode cX3_reelMinutes 5 = .ok (.aload_n 0, 1) := by decide +kernel
theorem dX3_reelMinutes_6 : decode cX3_reelMinutes 6 = .ok (.getfield 23, 3) := by decide +kernel
theorem dX3_reelMinutes_9 : decode cX3_reelMinutes 9 = .ok (.invokevirtual 63, 3) := by decide +kernel
theorem dX3_reelMinutes_12 : decode cX3_reelMinutes 12 = .ok (.if_icmp .ge 29, 3) := by decide +kernel
theorem dX3_reelMinutes_15 : decode cX3_reelMinutes 15 = .ok (.iload_n 1, 1) := by decide +kernel
theorem dX3_reelMinutes_16 : decode cX3_reelMinutes 16 = .ok (.iload_n 3, 1) := by decide +kernel
theorem dX3_reelMinutes_17 : decode cX3_reelMinutes 17 = .ok (.ishr, 1) := by decide +kernel
theorem dX3_reelMinutes_18 : decode cX3_reelMinutes 18 = .ok (.iconst 1, 1) := by decide +kernel
theorem dX3_reelMinutes_19 : decode cX3_reelMinutes 19 = .ok (.iand, 1) := by decide +kernel
theorem dX3_reelMinutes_20 : decode cX3_reelMinutes 20 = .ok (.ifCond .eq 15, 3) := by decide +kernel
theorem dX3_reelMinutes_23 : decode cX3_reelMinutes 23 = .ok (.iload_n 2, 1) := by decide +kernel
theorem dX3_reelMinutes_24 : decode cX3_reelMinutes 24 = .ok (.aload_n 0, 1) := by decide +kernel
theorem dX3_reelMinutes_25 : decode cX3_reelMinutes 25 = .ok (.getfield 23, 3) := by decide +kernel
theorem dX3_reelMinutes_28 : decode cX3_reelMinutes 28 = .ok (.iload_n 3, 1) := by decide +kernel
theorem dX3_reelMinutes_29 : decode cX3_reelMinutes 29 = .ok (.iconst 1, 1) := by decide +kernel
theorem dX3_reelMinutes_30 : decode cX3_reelMinutes 30 = .ok (.invokevirtual 54, 3) := by decide +kernel
theorem dX3_reelMinutes_33 : decode cX3_reelMinutes 33 = .ok (.iadd, 1) := by decide +kernel
theorem dX3_reelMinutes_34 : decode cX3_reelMinutes 34 = .ok (.istore_n 2, 1) := by decide +kernel
theorem dX3_reelMinutes_35 : decode cX3_reelMinutes 35 = .ok (.iinc 3 1, 3) := by decide +kernel
theorem dX3_reelMinutes_38 : decode cX3_reelMinutes 38 = .ok (.goto (-34), 3) := by decide +kernel
theorem dX3_reelMinutes_41 : decode cX3_reelMinutes 41 = .ok (.iload_n 2, 1) := by decide +kernel
theorem dX3_reelMinutes_42 : decode cX3_reelMinutes 42 = .ok (.ireturn, 1) := by decide +kernel
theorem dX3_bestReel_0 : decode cX3_bestReel 0 = .ok (.aload_n 0, 1) := by decide +kernel
theorem dX3_bestReel_1 : decode cX3_bestReel 1 = .ok (.getfield 32, 3) := by decide +kernel
theorem dX3_bestReel_4 : decode cX3_bestReel 4 = .ok (.iconst 0, 1) := by decide +kernel
theorem dX3_bestReel_5 : decode cX3_bestReel 5 = .ok (.iconst 3, 1) := by decide +kernel
theorem dX3_bestReel_6 : decode cX3_bestReel 6 = .ok (.invokevirtual 54, 3) := by decide +kernel
theorem dX3_bestReel_9 : decode cX3_bestReel 9 = .ok (.istore_n 3, 1) := by decide +kernel
theorem dX3_bestReel_10 : decode cX3_bestReel 10 = .ok (.iconst 0, 1) := by decide +kernel
theorem dX3_bestReel_11 : decode cX3_bestReel 11 = .ok (.istore 4, 2) := by decide +kernel
theorem dX3_bestReel_13 : decode cX3_bestReel 13 = .ok (.iconst 0, 1) := by decide +kernel
theorem dX3_bestReel_14 : decode cX3_bestReel 14 = .ok (.istore 5, 2) := by decide +kernel
theorem dX3_bestReel_16 : decode cX3_bestReel 16 = .ok (.iload 5, 2) := by decide +kernel
theorem dX3_bestReel_18 : decode cX3_bestReel 18 = .ok (.aload_n 0, 1) := by decide +kernel
theorem dX3_bestReel_19 : decode cX3_bestReel 19 = .ok (.getfield 23, 3) := by decide +kernel
theorem dX3_bestReel_22 : decode cX3_bestReel 22 = .ok (.invokevirtual 63, 3) := by decide +kernel
theorem dX3_bestReel_25 : decode cX3_bestReel 25 = .ok (.if_icmp .ge 29, 3) := by decide +kernel
theorem dX3_bestReel_28 : decode cX3_bestReel 28 = .ok (.aload_n 0, 1) := by decide +kernel
theorem dX3_bestReel_29 : decode cX3_bestReel 29 = .ok (.iload 5, 2) := by decide +kernel
theorem dX3_bestReel_31 : decode cX3_bestReel 31 = .ok (.iload_n 1, 1) := by decide +kernel
theorem dX3_bestReel_32 : decode cX3_bestReel 32 = .ok (.iload_n 2, 1) := by decide +kernel
theorem dX3_bestReel_33 : decode cX3_bestReel 33 = .ok (.invokevirtual 67, 3) := by decide +kernel
theorem dX3_bestReel_36 : decode cX3_bestReel 36 = .ok (.ifCond .eq 12, 3) := by decide +kernel
theorem dX3_bestReel_39 : decode cX3_bestReel 39 = .ok (.iload 4, 2) := by decide +kernel
theorem dX3_bestReel_41 : decode cX3_bestReel 41 = .ok (.iconst 1, 1) := by decide +kernel
theorem dX3_bestReel_42 : decode cX3_bestReel 42 = .ok (.iload 5, 2) := by decide +kernel
theorem dX3_bestReel_44 : decode cX3_bestReel 44 = .ok (.ishl, 1) := by decide +kernel
theorem dX3_bestReel_45 : decode cX3_bestReel 45 = .ok (.ior, 1) := by decide +kernel
theorem dX3_bestReel_46 : decode cX3_bestReel 46 = .ok (.istore 4, 2) := by decide +kernel
theorem dX3_bestReel_48 : decode cX3_bestReel 48 = .ok (.iinc 5 1, 3) := by decide +kernel
theorem dX3_bestReel_51 : decode cX3_bestReel 51 = .ok (.goto (-35), 3) := by decide +kernel
theorem dX3_bestReel_54 : decode cX3_bestReel 54 = .ok (.iconst 0, 1) := by decide +kernel
theorem dX3_bestReel_55 : decode cX3_bestReel 55 = .ok (.istore 5, 2) := by decide +kernel
theorem dX3_bestReel_57 : decode cX3_bestReel 57 = .ok (.iconst 0, 1) := by decide +kernel
theorem dX3_bestReel_58 : decode cX3_bestReel 58 = .ok (.istore 6, 2) := by decide +kernel
theorem dX3_bestReel_60 : decode cX3_bestReel 60 = .ok (.iconst 1, 1) := by decide +kernel
theorem dX3_bestReel_61 : decode cX3_bestReel 61 = .ok (.istore 7, 2) := by decide +kernel
theorem dX3_bestReel_63 : decode cX3_bestReel 63 = .ok (.iload 7, 2) := by decide +kernel
theorem dX3_bestReel_65 : decode cX3_bestReel 65 = .ok (.sipush 1024, 3) := by decide +kernel
theorem dX3_bestReel_68 : decode cX3_bestReel 68 = .ok (.if_icmp .ge 86, 3) := by decide +kernel
theorem dX3_bestReel_71 : decode cX3_bestReel 71 = .ok (.iload 7, 2) := by decide +kernel
theorem dX3_bestReel_73 : decode cX3_bestReel 73 = .ok (.iload 4, 2) := by decide +kernel
theorem dX3_bestReel_75 : decode cX3_bestReel 75 = .ok (.iconst (-1), 1) := by decide +kernel
theorem dX3_bestReel_76 : decode cX3_bestReel 76 = .ok (.ixor, 1) := by decide +kernel
theorem dX3_bestReel_77 : decode cX3_bestReel 77 = .ok (.iand, 1) := by decide +kernel
theorem dX3_bestReel_78 : decode cX3_bestReel 78 = .ok (.ifCond .ne 70, 3) := by decide +kernel
theorem dX3_bestReel_81 : decode cX3_bestReel 81 = .ok (.iload 7, 2) := by decide +kernel
theorem dX3_bestReel_83 : decode cX3_bestReel 83 = .ok (.invokestatic 71, 3) := by decide +kernel
theorem dX3_bestReel_86 : decode cX3_bestReel 86 = .ok (.iconst 4, 1) := by decide +kernel
theorem dX3_bestReel_87 : decode cX3_bestReel 87 = .ok (.if_icmp .gt 61, 3) := by decide +kernel
theorem dX3_bestReel_90 : decode cX3_bestReel 90 = .ok (.aload_n 0, 1) := by decide +kernel
theorem dX3_bestReel_91 : decode cX3_bestReel 91 = .ok (.iload 7, 2) := by decide +kernel
theorem dX3_bestReel_93 : decode cX3_bestReel 93 = .ok (.invokevirtual 77, 3) := by decide +kernel
theorem dX3_bestReel_96 : decode cX3_bestReel 96 = .ok (.istore 8, 2) := by decide +kernel
theorem dX3_bestReel_98 : decode cX3_bestReel 98 = .ok (.iload 8, 2) := by decide +kernel
theorem dX3_bestReel_100 : decode cX3_bestReel 100 = .ok (.iload 6, 2) := by decide +kernel
theorem dX3_bestReel_102 : decode cX3_bestReel 102 = .ok (.if_icmp .gt 20, 3) := by decide +kernel
theorem dX3_bestReel_105 : decode cX3_bestReel 105 = .ok (.iload 8, 2) := by decide +kernel
theorem dX3_bestReel_107 : decode cX3_bestReel 107 = .ok (.iload 6, 2) := by decide +kernel
theorem dX3_bestReel_109 : decode cX3_bestReel 109 = .ok (.if_icmp .ne 17, 3) := by decide +kernel
theorem dX3_bestReel_112 : decode cX3_bestReel 112 = .ok (.iload 7, 2) := by decide +kernel
theorem dX3_bestReel_114 : decode cX3_bestReel 114 = .ok (.iload 5, 2) := by decide +kernel
theorem dX3_bestReel_116 : decode cX3_bestReel 116 = .ok (.invokestatic 80, 3) := by decide +kernel
theorem dX3_bestReel_119 : decode cX3_bestReel 119 = .ok (.ifCond .eq 7, 3) := by decide +kernel
theorem dX3_bestReel_122 : decode cX3_bestReel 122 = .ok (.iconst 1, 1) := by decide +kernel
theorem dX3_bestReel_123 : decode cX3_bestReel 123 = .ok (.goto 4, 3) := by decide +kernel
theorem dX3_bestReel_126 : decode cX3_bestReel 126 = .ok (.iconst 0, 1) := by decide +kernel
theorem dX3_bestReel_127 : decode cX3_bestReel 127 = .ok (.istore 9, 2) := by decide +kernel
theorem dX3_bestReel_129 : decode cX3_bestReel 129 = .ok (.iload 8, 2) := by decide +kernel
theorem dX3_bestReel_131 : decode cX3_bestReel 131 = .ok (.iload_n 3, 1) := by decide +kernel
theorem dX3_bestReel_132 : decode cX3_bestReel 132 = .ok (.if_icmp .gt 16, 3) := by decide +kernel
theorem dX3_bestReel_135 : decode cX3_bestReel 135 = .ok (.iload 9, 2) := by decide +kernel
theorem dX3_bestReel_137 : decode cX3_bestReel 137 = .ok (.ifCond .eq 11, 3) := by decide +kernel
theorem dX3_bestReel_140 : decode cX3_bestReel 140 = .ok (.iload 7, 2) := by decide +kernel
theorem dX3_bestReel_142 : decode cX3_bestReel 142 = .ok (.istore 5, 2) := by decide +kernel
theorem dX3_bestReel_144 : decode cX3_bestReel 144 = .ok (.iload 8, 2) := by decide +kernel
theorem dX3_bestReel_146 : decode cX3_bestReel 146 = .ok (.istore 6, 2) := by decide +kernel
theorem dX3_bestReel_148 : decode cX3_bestReel 148 = .ok (.iinc 7 1, 3) := by decide +kernel
theorem dX3_bestReel_151 : decode cX3_bestReel 151 = .ok (.goto (-88), 3) := by decide +kernel
theorem dX3_bestReel_154 : decode cX3_bestReel 154 = .ok (.iload 5, 2) := by decide +kernel
theorem dX3_bestReel_156 : decode cX3_bestReel 156 = .ok (.ireturn, 1) := by decide +kernel
theorem dX3_isAhead_0 : decode cX3_isAhead 0 = .ok (.iload_n 0, 1) := by decide +kernel
theorem dX3_isAhead_1 : decode cX3_isAhead 1 = .ok (.invokestatic 71, 3) := by decide +kernel
theorem dX3_isAhead_4 : decode cX3_isAhead 4 = .ok (.istore_n 2, 1) := by decide +kernel
theorem dX3_isAhead_5 : decode cX3_isAhead 5 = .ok (.iload_n 1, 1) := by decide +kernel
theorem dX3_isAhead_6 : decode cX3_isAhead 6 = .ok (.invokestatic 71, 3) := by decide +kernel
theorem dX3_isAhead_9 : decode cX3_isAhead 9 = .ok (.istore_n 3, 1) := by decide +kernel
theorem dX3_isAhead_10 : decode cX3_isAhead 10 = .ok (.iload_n 2, 1) := by decide +kernel
theorem dX3_isAhead_11 : decode cX3_isAhead 11 = .ok (.iload_n 3, 1) := by decide +kernel
theorem dX3_isAhead_12 : decode cX3_isAhead 12 = .ok (.if_icmp .eq 14, 3) := by decide +kernel
theorem dX3_isAhead_15 : decode cX3_isAhead 15 = .ok (.iload_n 2, 1) := by decide +kernel
theorem dX3_isAhead_16 : decode cX3_isAhead 16 = .ok (.iload_n 3, 1) := by decide +kernel
theorem dX3_isAhead_17 : decode cX3_isAhead 17 = .ok (.if_icmp .ge 7, 3) := by decide +kernel
theorem dX3_isAhead_20 : decode cX3_isAhead 20 = .ok (.iconst 1, 1) := by decide +kernel
theorem dX3_isAhead_21 : decode cX3_isAhead 21 = .ok (.goto 4, 3) := by decide +kernel
theorem dX3_isAhead_24 : decode cX3_isAhead 24 = .ok (.iconst 0, 1) := by decide +kernel
theorem dX3_isAhead_25 : decode cX3_isAhead 25 = .ok (.ireturn, 1) := by decide +kernel
theorem dX3_isAhead_26 : decode cX3_isAhead 26 = .ok (.iload_n 0, 1) := by decide +kernel
theorem dX3_isAhead_27 : decode cX3_isAhead 27 = .ok (.iload_n 1, 1) := by decide +kernel
theorem dX3_isAhead_28 : decode cX3_isAhead 28 = .ok (.ixor, 1) := by decide +kernel
theorem dX3_isAhead_29 : decode cX3_isAhead 29 = .ok (.istore 4, 2) := by decide +kernel
theorem dX3_isAhead_31 : decode cX3_isAhead 31 = .ok (.iload_n 0, 1) := by decide +kernel
theorem dX3_isAhead_32 : decode cX3_isAhead 32 = .ok (.iload 4, 2) := by decide +kernel
theorem dX3_isAhead_34 : decode cX3_isAhead 34 = .ok (.iand, 1) := by decide +kernel
theorem dX3_isAhead_35 : decode cX3_isAhead 35 = .ok (.iload 4, 2) := by decide +kernel
theorem dX3_isAhead_37 : decode cX3_isAhead 37 = .ok (.ineg, 1) := by decide +kernel
theorem dX3_isAhead_38 : decode cX3_isAhead 38 = .ok (.iand, 1) := by decide +kernel
theorem dX3_isAhead_39 : decode cX3_isAhead 39 = .ok (.ifCond .eq 7, 3) := by decide +kernel
theorem dX3_isAhead_42 : decode cX3_isAhead 42 = .ok (.iconst 1, 1) := by decide +kernel
theorem dX3_isAhead_43 : decode cX3_isAhead 43 = .ok (.goto 4, 3) := by decide +kernel
theorem dX3_isAhead_46 : decode cX3_isAhead 46 = .ok (.iconst 0, 1) := by decide +kernel
theorem dX3_isAhead_47 : decode cX3_isAhead 47 = .ok (.ireturn, 1) := by decide +kernel
theorem dX3_newMinutes_0 : decode cX3_newMinutes 0 = .ok (.aload_n 0, 1) := by decide +kernel
theorem dX3_newMinutes_1 : decode cX3_newMinutes 1 = .ok (.aload_n 0, 1) := by decide +kernel
theorem dX3_newMinutes_2 : decode cX3_newMinutes 2 = .ok (.iload_n 1, 1) := by decide +kernel
theorem dX3_newMinutes_3 : decode cX3_newMinutes 3 = .ok (.iload_n 2, 1) := by decide +kernel
theorem dX3_newMinutes_4 : decode cX3_newMinutes 4 = .ok (.invokevirtual 84, 3) := by decide +kernel
theorem dX3_newMinutes_7 : decode cX3_newMinutes 7 = .ok (.invokevirtual 77, 3) := by decide +kernel
theorem dX3_newMinutes_10 : decode cX3_newMinutes 10 = .ok (.aload_n 0, 1) := by decide +kernel
theorem dX3_newMinutes_11 : decode cX3_newMinutes 11 = .ok (.getfield 20, 3) := by decide +kernel
theorem dX3_newMinutes_14 : decode cX3_newMinutes 14 = .ok (.iload_n 1, 1) := by decide +kernel
theorem dX3_newMinutes_15 : decode cX3_newMinutes 15 = .ok (.iconst 0, 1) := by decide +kernel
theorem dX3_newMinutes_16 : decode cX3_newMinutes 16 = .ok (.invokevirtual 54, 3) := by decide +kernel
theorem dX3_newMinutes_19 : decode cX3_newMinutes 19 = .ok (.iadd, 1) := by decide +kernel
theorem dX3_newMinutes_20 : decode cX3_newMinutes 20 = .ok (.ireturn, 1) := by decide +kernel
theorem dX3_addShow_0 : decode cX3_addShow 0 = .ok (.aload_n 0, 1) := by decide +kernel
theorem dX3_addShow_1 : decode cX3_addShow 1 = .ok (.iload_n 2, 1) := by decide +kernel
theorem dX3_addShow_2 : decode cX3_addShow 2 = .ok (.iload_n 3, 1) := by decide +kernel
theorem dX3_addShow_3 : decode cX3_addShow 3 = .ok (.invokevirtual 84, 3) := by decide +kernel
theorem dX3_addShow_6 : decode cX3_addShow 6 = .ok (.istore 5, 2) := by decide +kernel
theorem dX3_addShow_8 : decode cX3_addShow 8 = .ok (.aload_n 0, 1) := by decide +kernel
theorem dX3_addShow_9 : decode cX3_addShow 9 = .ok (.iload 5, 2) := by decide +kernel
theorem dX3_addShow_11 : decode cX3_addShow 11 = .ok (.invokevirtual 77, 3) := by decide +kernel
theorem dX3_addShow_14 : decode cX3_addShow 14 = .ok (.istore 6, 2) := by decide +kernel
theorem dX3_addShow_16 : decode cX3_addShow 16 = .ok (.aload_n 0, 1) := by decide +kernel
theorem dX3_addShow_17 : decode cX3_addShow 17 = .ok (.getfield 26, 3) := by decide +kernel
theorem dX3_addShow_20 : decode cX3_addShow 20 = .ok (.invokevirtual 87, 3) := by decide +kernel
theorem dX3_addShow_23 : decode cX3_addShow 23 = .ok (.istore 7, 2) := by decide +kernel
theorem dX3_addShow_25 : decode cX3_addShow 25 = .ok (.aload_n 0, 1) := by decide +kernel
theorem dX3_addShow_26 : decode cX3_addShow 26 = .ok (.getfield 26, 3) := by decide +kernel
theorem dX3_addShow_29 : decode cX3_addShow 29 = .ok (.iload 7, 2) := by decide +kernel
theorem dX3_addShow_31 : decode cX3_addShow 31 = .ok (.iconst 0, 1) := by decide +kernel
theorem dX3_addShow_32 : decode cX3_addShow 32 = .ok (.iload_n 1, 1) := by decide +kernel
theorem dX3_addShow_33 : decode cX3_addShow 33 = .ok (.invokevirtual 46, 3) := by decide +kernel
theorem dX3_addShow_36 : decode cX3_addShow 36 = .ok (.aload_n 0, 1) := by decide +kernel
theorem dX3_addShow_37 : decode cX3_addShow 37 = .ok (.getfield 26, 3) := by decide +kernel
theorem dX3_addShow_40 : decode cX3_addShow 40 = .ok (.iload 7, 2) := by decide +kernel
theorem dX3_addShow_42 : decode cX3_addShow 42 = .ok (.iconst 1, 1) := by decide +kernel
theorem dX3_addShow_43 : decode cX3_addShow 43 = .ok (.iload_n 2, 1) := by decide +kernel
theorem dX3_addShow_44 : decode cX3_addShow 44 = .ok (.invokevirtual 46, 3) := by decide +kernel
theorem dX3_addShow_47 : decode cX3_addShow 47 = .ok (.aload_n 0, 1) := by decide +kernel
theorem dX3_addShow_48 : decode cX3_addShow 48 = .ok (.getfield 26, 3) := by decide +kernel
theorem dX3_addShow_51 : decode cX3_addShow 51 = .ok (.iload 7, 2) := by decide +kernel
theorem dX3_addShow_53 : decode cX3_addShow 53 = .ok (.iconst 2, 1) := by decide +kernel
theorem dX3_addShow_54 : decode cX3_addShow 54 = .ok (.iload_n 3, 1) := by decide +kernel
theorem dX3_addShow_55 : decode cX3_addShow 55 = .ok (.invokevirtual 46, 3) := by decide +kernel
theorem dX3_addShow_58 : decode cX3_addShow 58 = .ok (.aload_n 0, 1) := by decide +kernel
theorem dX3_addShow_59 : decode cX3_addShow 59 = .ok (.getfield 26, 3) := by decide +kernel
theorem dX3_addShow_62 : decode cX3_addShow 62 = .ok (.iload 7, 2) := by decide +kernel
theorem dX3_addShow_64 : decode cX3_addShow 64 = .ok (.iconst 3, 1) := by decide +kernel
theorem dX3_addShow_65 : decode cX3_addShow 65 = .ok (.iload 4, 2) := by decide +kernel
theorem dX3_addShow_67 : decode cX3_addShow 67 = .ok (.invokevirtual 46, 3) := by decide +kernel
theorem dX3_addShow_70 : decode cX3_addShow 70 = .ok (.aload_n 0, 1) := by decide +kernel
theorem dX3_addShow_71 : decode cX3_addShow 71 = .ok (.getfield 26, 3) := by decide +kernel
theorem dX3_addShow_74 : decode cX3_addShow 74 = .ok (.iload 7, 2) := by decide +kernel
theorem dX3_addShow_76 : decode cX3_addShow 76 = .ok (.iconst 4, 1) := by decide +kernel
theorem dX3_addShow_77 : decode cX3_addShow 77 = .ok (.iload 4, 2) := by decide +kernel
theorem dX3_addShow_79 : decode cX3_addShow 79 = .ok (.iload 6, 2) := by decide +kernel
theorem dX3_addShow_81 : decode cX3_addShow 81 = .ok (.iadd, 1) := by decide +kernel
theorem dX3_addShow_82 : decode cX3_addShow 82 = .ok (.aload_n 0, 1) := by decide +kernel
theorem dX3_addShow_83 : decode cX3_addShow 83 = .ok (.getfield 20, 3) := by decide +kernel
theorem dX3_addShow_86 : decode cX3_addShow 86 = .ok (.iload_n 2, 1) := by decide +kernel
theorem dX3_addShow_87 : decode cX3_addShow 87 = .ok (.iconst 0, 1) := by decide +kernel
theorem dX3_addShow_88 : decode cX3_addShow 88 = .ok (.invokevirtual 54, 3) := by decide +kernel
theorem dX3_addShow_91 : decode cX3_addShow 91 = .ok (.iadd, 1) := by decide +kernel
theorem dX3_addShow_92 : decode cX3_addShow 92 = .ok (.invokevirtual 46, 3) := by decide +kernel
theorem dX3_addShow_95 : decode cX3_addShow 95 = .ok (.aload_n 0, 1) := by decide +kernel
theorem dX3_addShow_96 : decode cX3_addShow 96 = .ok (.getfield 26, 3) := by decide +kernel
theorem dX3_addShow_99 : decode cX3_addShow 99 = .ok (.iload 7, 2) := by decide +kernel
theorem dX3_addShow_101 : decode cX3_addShow 101 = .ok (.bipush 6, 2) := by decide +kernel
theorem dX3_addShow_103 : decode cX3_addShow 103 = .ok (.iload 5, 2) := by decide +kernel
theorem dX3_addShow_105 : decode cX3_addShow 105 = .ok (.invokevirtual 46, 3) := by decide +kernel
theorem dX3_addShow_108 : decode cX3_addShow 108 = .ok (.aload_n 0, 1) := by decide +kernel
theorem dX3_addShow_109 : decode cX3_addShow 109 = .ok (.getfield 26, 3) := by decide +kernel
theorem dX3_addShow_112 : decode cX3_addShow 112 = .ok (.iload 7, 2) := by decide +kernel
theorem dX3_addShow_114 : decode cX3_addShow 114 = .ok (.bipush 7, 2) := by decide +kernel
theorem dX3_addShow_116 : decode cX3_addShow 116 = .ok (.aload_n 0, 1) := by decide +kernel
theorem dX3_addShow_117 : decode cX3_addShow 117 = .ok (.getfield 32, 3) := by decide +kernel
theorem dX3_addShow_120 : decode cX3_addShow 120 = .ok (.iconst 0, 1) := by decide +kernel
theorem dX3_addShow_121 : decode cX3_addShow 121 = .ok (.iconst 5, 1) := by decide +kernel
theorem dX3_addShow_122 : decode cX3_addShow 122 = .ok (.invokevirtual 54, 3) := by decide +kernel
theorem dX3_addShow_125 : decode cX3_addShow 125 = .ok (.invokevirtual 46, 3) := by decide +kernel
theorem dX3_addShow_128 : decode cX3_addShow 128 = .ok (.aload_n 0, 1) := by decide +kernel
theorem dX3_addShow_129 : decode cX3_addShow 129 = .ok (.getfield 26, 3) := by decide +kernel
theorem dX3_addShow_132 : decode cX3_addShow 132 = .ok (.iload 7, 2) := by decide +kernel
theorem dX3_addShow_134 : decode cX3_addShow 134 = .ok (.bipush 11, 2) := by decide +kernel
theorem dX3_addShow_136 : decode cX3_addShow 136 = .ok (.iload 6, 2) := by decide +kernel
theorem dX3_addShow_138 : decode cX3_addShow 138 = .ok (.invokevirtual 46, 3) := by decide +kernel
theorem dX3_addShow_141 : decode cX3_addShow 141 = .ok (.iload 7, 2) := by decide +kernel
theorem dX3_addShow_143 : decode cX3_addShow 143 = .ok (.ireturn, 1) := by decide +kernel
theorem dX3_putShow_0 : decode cX3_putShow 0 = .ok (.iload_n 3, 1) := by decide +kernel
theorem dX3_putShow_1 : decode cX3_putShow 1 = .ok (.aload_n 0, 1) := by decide +kernel
theorem dX3_putShow_2 : decode cX3_putShow 2 = .ok (.getfield 26, 3) := by decide +kernel
theorem dX3_putShow_5 : decode cX3_putShow 5 = .ok (.iload_n 1, 1) := by decide +kernel
theorem dX3_putShow_6 : decode cX3_putShow 6 = .ok (.iconst 3, 1) := by decide +kernel
theorem dX3_putShow_7 : decode cX3_putShow 7 = .ok (.invokevirtual 54, 3) := by decide +kernel
theorem dX3_putShow_10 : decode cX3_putShow 10 = .ok (.isub, 1) := by decide +kernel
theorem dX3_putShow_11 : decode cX3_putShow 11 = .ok (.istore 4, 2) := by decide +kernel
theorem dX3_putShow_13 : decode cX3_putShow 13 = .ok (.aload_n 0, 1) := by decide +kernel
theorem dX3_putShow_14 : decode cX3_putShow 14 = .ok (.getfield 26, 3) := by decide +kernel
theorem dX3_putShow_17 : decode cX3_putShow 17 = .ok (.iload_n 1, 1) := by decide +kernel
theorem dX3_putShow_18 : decode cX3_putShow 18 = .ok (.iconst 0, 1) := by decide +kernel
theorem dX3_putShow_19 : decode cX3_putShow 19 = .ok (.iload_n 2, 1) := by decide +kernel
theorem dX3_putShow_20 : decode cX3_putShow 20 = .ok (.invokevirtual 46, 3) := by decide +kernel
theorem dX3_putShow_23 : decode cX3_putShow 23 = .ok (.aload_n 0, 1) := by decide +kernel
theorem dX3_putShow_24 : decode cX3_putShow 24 = .ok (.getfield 26, 3) := by decide +kernel
theorem dX3_putShow_27 : decode cX3_putShow 27 = .ok (.iload_n 1, 1) := by decide +kernel
theorem dX3_putShow_28 : decode cX3_putShow 28 = .ok (.iconst 3, 1) := by decide +kernel
theorem dX3_putShow_29 : decode cX3_putShow 29 = .ok (.iload_n 3, 1) := by decide +kernel
theorem dX3_putShow_30 : decode cX3_putShow 30 = .ok (.invokevirtual 46, 3) := by decide +kernel
theorem dX3_putShow_33 : decode cX3_putShow 33 = .ok (.aload_n 0, 1) := by decide +kernel
theorem dX3_putShow_34 : decode cX3_putShow 34 = .ok (.getfield 26, 3) := by decide +kernel
theorem dX3_putShow_37 : decode cX3_putShow 37 = .ok (.iload_n 1, 1) := by decide +kernel
theorem dX3_putShow_38 : decode cX3_putShow 38 = .ok (.iconst 4, 1) := by decide +kernel
theorem dX3_putShow_39 : decode cX3_putShow 39 = .ok (.aload_n 0, 1) := by decide +kernel
theorem dX3_putShow_40 : decode cX3_putShow 40 = .ok (.getfield 26, 3) := by decide +kernel
theorem dX3_putShow_43 : decode cX3_putShow 43 = .ok (.iload_n 1, 1) := by decide +kernel
theorem dX3_putShow_44 : decode cX3_putShow 44 = .ok (.iconst 4, 1) := by decide +kernel
theorem dX3_putShow_45 : decode cX3_putShow 45 = .ok (.invokevirtual 54, 3) := by decide +kernel
theorem dX3_putShow_48 : decode cX3_putShow 48 = .ok (.iload 4, 2) := by decide +kernel
theorem dX3_putShow_50 : decode cX3_putShow 50 = .ok (.iadd, 1) := by decide +kernel
theorem dX3_putShow_51 : decode cX3_putShow 51 = .ok (.invokevirtual 46, 3) := by decide +kernel
theorem dX3_putShow_54 : decode cX3_putShow 54 = .ok (.return_, 1) := by decide +kernel
theorem dX3_dropShow_0 : decode cX3_dropShow 0 = .ok (.aload_n 0, 1) := by decide +kernel
theorem dX3_dropShow_1 : decode cX3_dropShow 1 = .ok (.getfield 26, 3) := by decide +kernel
theorem dX3_dropShow_4 : decode cX3_dropShow 4 = .ok (.iload_n 1, 1) := by decide +kernel
theorem dX3_dropShow_5 : decode cX3_dropShow 5 = .ok (.iconst 5, 1) := by decide +kernel
theorem dX3_dropShow_6 : decode cX3_dropShow 6 = .ok (.invokevirtual 54, 3) := by decide +kernel
theorem dX3_dropShow_9 : decode cX3_dropShow 9 = .ok (.istore_n 2, 1) := by decide +kernel
theorem dX3_dropShow_10 : decode cX3_dropShow 10 = .ok (.aload_n 0, 1) := by decide +kernel
theorem dX3_dropShow_11 : decode cX3_dropShow 11 = .ok (.getfield 26, 3) := by decide +kernel
theorem dX3_dropShow_14 : decode cX3_dropShow 14 = .ok (.iload_n 1, 1) := by decide +kernel
theorem dX3_dropShow_15 : decode cX3_dropShow 15 = .ok (.bipush 8, 2) := by decide +kernel
theorem dX3_dropShow_17 : decode cX3_dropShow 17 = .ok (.iconst 1, 1) := by decide +kernel
theorem dX3_dropShow_18 : decode cX3_dropShow 18 = .ok (.invokevirtual 46, 3) := by decide +kernel
theorem dX3_dropShow_21 : decode cX3_dropShow 21 = .ok (.aload_n 0, 1) := by decide +kernel
theorem dX3_dropShow_22 : decode cX3_dropShow 22 = .ok (.getfield 26, 3) := by decide +kernel
theorem dX3_dropShow_25 : decode cX3_dropShow 25 = .ok (.iload_n 1, 1) := by decide +kernel
theorem dX3_dropShow_26 : decode cX3_dropShow 26 = .ok (.iconst 5, 1) := by decide +kernel
theorem dX3_dropShow_27 : decode cX3_dropShow 27 = .ok (.iconst 0, 1) := by decide +kernel
theorem dX3_dropShow_28 : decode cX3_dropShow 28 = .ok (.invokevirtual 46, 3) := by decide +kernel
theorem dX3_dropShow_31 : decode cX3_dropShow 31 = .ok (.aload_n 0, 1) := by decide +kernel
theorem dX3_dropShow_32 : decode cX3_dropShow 32 = .ok (.dup, 1) := by decide +kernel
theorem dX3_dropShow_33 : decode cX3_dropShow 33 = .ok (.getfield 39, 3) := by decide +kernel
theorem dX3_dropShow_36 : decode cX3_dropShow 36 = .ok (.iload_n 2, 1) := by decide +kernel
theorem dX3_dropShow_37 : decode cX3_dropShow 37 = .ok (.iadd, 1) := by decide +kernel
theorem dX3_dropShow_38 : decode cX3_dropShow 38 = .ok (.putfield 39, 3) := by decide +kernel
theorem dX3_dropShow_41 : decode cX3_dropShow 41 = .ok (.iload_n 2, 1) := by decide +kernel
theorem dX3_dropShow_42 : decode cX3_dropShow 42 = .ok (.ireturn, 1) := by decide +kernel
theorem dX3_addTickets_0 : decode cX3_addTickets 0 = .ok (.aload_n 0, 1) := by decide +kernel
theorem dX3_addTickets_1 : decode cX3_addTickets 1 = .ok (.getfield 26, 3) := by decide +kernel
theorem dX3_addTickets_4 : decode cX3_addTickets 4 = .ok (.iload_n 1, 1) := by decide +kernel
theorem dX3_addTickets_5 : decode cX3_addTickets 5 = .ok (.iconst 5, 1) := by decide +kernel
theorem dX3_addTickets_6 : decode cX3_addTickets 6 = .ok (.invokevirtual 54, 3) := by decide +kernel
theorem dX3_addTickets_9 : decode cX3_addTickets 9 = .ok (.iload_n 2, 1) := by decide +kernel
theorem dX3_addTickets_10 : decode cX3_addTickets 10 = .ok (.iadd, 1) := by decide +kernel
theorem dX3_addTickets_11 : decode cX3_addTickets 11 = .ok (.istore_n 3, 1) := by decide +kernel
theorem dX3_addTickets_12 : decode cX3_addTickets 12 = .ok (.aload_n 0, 1) := by decide +kernel
theorem dX3_addTickets_13 : decode cX3_addTickets 13 = .ok (.getfield 26, 3) := by decide +kernel
theorem dX3_addTickets_16 : decode cX3_addTickets 16 = .ok (.iload_n 1, 1) := by decide +kernel
theorem dX3_addTickets_17 : decode cX3_addTickets 17 = .ok (.iconst 5, 1) := by decide +kernel
theorem dX3_addTickets_18 : decode cX3_addTickets 18 = .ok (.iload_n 3, 1) := by decide +kernel
theorem dX3_addTickets_19 : decode cX3_addTickets 19 = .ok (.invokevirtual 46, 3) := by decide +kernel
theorem dX3_addTickets_22 : decode cX3_addTickets 22 = .ok (.iload_n 3, 1) := by decide +kernel
theorem dX3_addTickets_23 : decode cX3_addTickets 23 = .ok (.ireturn, 1) := by decide +kernel
theorem dX3_isCancelled_0 : decode cX3_isCancelled 0 = .ok (.aload_n 0, 1) := by decide +kernel
theorem dX3_isCancelled_1 : decode cX3_isCancelled 1 = .ok (.getfield 26, 3) := by decide +kernel
theorem dX3_isCancelled_4 : decode cX3_isCancelled 4 = .ok (.iload_n 1, 1) := by decide +kernel
theorem dX3_isCancelled_5 : decode cX3_isCancelled 5 = .ok (.bipush 8, 2) := by decide +kernel
theorem dX3_isCancelled_7 : decode cX3_isCancelled 7 = .ok (.invokevirtual 54, 3) := by decide +kernel
theorem dX3_isCancelled_10 : decode cX3_isCancelled 10 = .ok (.ifCond .eq 7, 3) := by decide +kernel
theorem dX3_isCancelled_13 : decode cX3_isCancelled 13 = .ok (.iconst 1, 1) := by decide +kernel
theorem dX3_isCancelled_14 : decode cX3_isCancelled 14 = .ok (.goto 4, 3) := by decide +kernel
theorem dX3_isCancelled_17 : decode cX3_isCancelled 17 = .ok (.iconst 0, 1) := by decide +kernel
theorem dX3_isCancelled_18 : decode cX3_isCancelled 18 = .ok (.ireturn, 1) := by decide +kernel
theorem dX3_statusOf_0 : decode cX3_statusOf 0 = .ok (.aload_n 0, 1) := by decide +kernel
theorem dX3_statusOf_1 : decode cX3_statusOf 1 = .ok (.iload_n 1, 1) := by decide +kernel
theorem dX3_statusOf_2 : decode cX3_statusOf 2 = .ok (.invokevirtual 90, 3) := by decide +kernel
theorem dX3_statusOf_5 : decode cX3_statusOf 5 = .ok (.ifCond .eq 5, 3) := by decide +kernel
theorem dX3_statusOf_8 : decode cX3_statusOf 8 = .ok (.iconst 1, 1) := by decide +kernel
theorem dX3_statusOf_9 : decode cX3_statusOf 9 = .ok (.ireturn, 1) := by decide +kernel
theorem dX3_statusOf_10 : decode cX3_statusOf 10 = .ok (.aload_n 0, 1) := by decide +kernel
theorem dX3_statusOf_11 : decode cX3_statusOf 11 = .ok (.getfield 26, 3) := by decide +kernel
theorem dX3_statusOf_14 : decode cX3_statusOf 14 = .ok (.iload_n 1, 1) := by decide +kernel
theorem dX3_statusOf_15 : decode cX3_statusOf 15 = .ok (.iconst 2, 1) := by decide +kernel
theorem dX3_statusOf_16 : decode cX3_statusOf 16 = .ok (.invokevirtual 54, 3) := by decide +kernel
theorem dX3_statusOf_19 : decode cX3_statusOf 19 = .ok (.aload_n 0, 1) := by decide +kernel
theorem dX3_statusOf_20 : decode cX3_statusOf 20 = .ok (.getfield 35, 3) := by decide +kernel
theorem dX3_statusOf_23 : decode cX3_statusOf 23 = .ok (.if_icmp .ge 7, 3) := by decide +kernel
theorem dX3_statusOf_26 : decode cX3_statusOf 26 = .ok (.iconst 2, 1) := by decide +kernel
theorem dX3_statusOf_27 : decode cX3_statusOf 27 = .ok (.goto 4, 3) := by decide +kernel
theorem dX3_statusOf_30 : decode cX3_statusOf 30 = .ok (.iconst 0, 1) := by decide +kernel
theorem dX3_statusOf_31 : decode cX3_statusOf 31 = .ok (.ireturn, 1) := by decide +kernel
theorem dX3_isOpen_0 : decode cX3_isOpen 0 = .ok (.aload_n 0, 1) := by decide +kernel
theorem dX3_isOpen_1 : decode cX3_isOpen 1 = .ok (.iload_n 1, 1) := by decide +kernel
theorem dX3_isOpen_2 : decode cX3_isOpen 2 = .ok (.invokevirtual 94, 3) := by decide +kernel
theorem dX3_isOpen_5 : decode cX3_isOpen 5 = .ok (.ifCond .ne 7, 3) := by decide +kernel
theorem dX3_isOpen_8 : decode cX3_isOpen 8 = .ok (.iconst 1, 1) := by decide +kernel
theorem dX3_isOpen_9 : decode cX3_isOpen 9 = .ok (.goto 4, 3) := by decide +kernel
theorem dX3_isOpen_12 : decode cX3_isOpen 12 = .ok (.iconst 0, 1) := by decide +kernel
theorem dX3_isOpen_13 : decode cX3_isOpen 13 = .ok (.ireturn, 1) := by decide +kernel
theorem dX3_minutesOf_0 : decode cX3_minutesOf 0 = .ok (.aload_n 0, 1) := by decide +kernel
theorem dX3_minutesOf_1 : decode cX3_minutesOf 1 = .ok (.getfield 26, 3) := by decide +kernel
theorem dX3_minutesOf_4 : decode cX3_minutesOf 4 = .ok (.iload_n 1, 1) := by decide +kernel
theorem dX3_minutesOf_5 : decode cX3_minutesOf 5 = .ok (.iconst 4, 1) := by decide +kernel
theorem dX3_minutesOf_6 : decode cX3_minutesOf 6 = .ok (.invokevirtual 54, 3) := by decide +kernel
theorem dX3_minutesOf_9 : decode cX3_minutesOf 9 = .ok (.aload_n 0, 1) := by decide +kernel
theorem dX3_minutesOf_10 : decode cX3_minutesOf 10 = .ok (.getfield 26, 3) := by decide +kernel
theorem dX3_minutesOf_13 : decode cX3_minutesOf 13 = .ok (.iload_n 1, 1) := by decide +kernel
theorem dX3_minutesOf_14 : decode cX3_minutesOf 14 = .ok (.iconst 3, 1) := by decide +kernel
theorem dX3_minutesOf_15 : decode cX3_minutesOf 15 = .ok (.invokevirtual 54, 3) := by decide +kernel
theorem dX3_minutesOf_18 : decode cX3_minutesOf 18 = .ok (.isub, 1) := by decide +kernel
theorem dX3_minutesOf_19 : decode cX3_minutesOf 19 = .ok (.ireturn, 1) := by decide +kernel
theorem dX3_seatsOf_0 : decode cX3_seatsOf 0 = .ok (.aload_n 0, 1) := by decide +kernel
theorem dX3_seatsOf_1 : decode cX3_seatsOf 1 = .ok (.getfield 14, 3) := by decide +kernel
theorem dX3_seatsOf_4 : decode cX3_seatsOf 4 = .ok (.aload_n 0, 1) := by decide +kernel
theorem dX3_seatsOf_5 : decode cX3_seatsOf 5 = .ok (.getfield 26, 3) := by decide +kernel
theorem dX3_seatsOf_8 : decode cX3_seatsOf 8 = .ok (.iload_n 1, 1) := by decide +kernel
theorem dX3_seatsOf_9 : decode cX3_seatsOf 9 = .ok (.iconst 0, 1) := by decide +kernel
theorem dX3_seatsOf_10 : decode cX3_seatsOf 10 = .ok (.invokevirtual 54, 3) := by decide +kernel
theorem dX3_seatsOf_13 : decode cX3_seatsOf 13 = .ok (.iconst 0, 1) := by decide +kernel
theorem dX3_seatsOf_14 : decode cX3_seatsOf 14 = .ok (.invokevirtual 54, 3) := by decide +kernel
theorem dX3_seatsOf_17 : decode cX3_seatsOf 17 = .ok (.ireturn, 1) := by decide +kernel
theorem dX3_cleaningOf_0 : decode cX3_cleaningOf 0 = .ok (.aload_n 0, 1) := by decide +kernel
theorem dX3_cleaningOf_1 : decode cX3_cleaningOf 1 = .ok (.getfield 14, 3) := by decide +kernel
theorem dX3_cleaningOf_4 : decode cX3_cleaningOf 4 = .ok (.aload_n 0, 1) := by decide +kernel
theorem dX3_cleaningOf_5 : decode cX3_cleaningOf 5 = .ok (.getfield 26, 3) := by decide +kernel
theorem dX3_cleaningOf_8 : decode cX3_cleaningOf 8 = .ok (.iload_n 1, 1) := by decide +kernel
theorem dX3_cleaningOf_9 : decode cX3_cleaningOf 9 = .ok (.iconst 0, 1) := by decide +kernel
theorem dX3_cleaningOf_10 : decode cX3_cleaningOf 10 = .ok (.invokevirtual 54, 3) := by decide +kernel
theorem dX3_cleaningOf_13 : decode cX3_cleaningOf 13 = .ok (.iconst 1, 1) := by decide +kernel
theorem dX3_cleaningOf_14 : decode cX3_cleaningOf 14 = .ok (.invokevirtual 54, 3) := by decide +kernel
theorem dX3_cleaningOf_17 : decode cX3_cleaningOf 17 = .ok (.ireturn, 1) := by decide +kernel
theorem dX3_receiptsOf_0 : decode cX3_receiptsOf 0 = .ok (.aload_n 0, 1) := by decide +kernel
theorem dX3_receiptsOf_1 : decode cX3_receiptsOf 1 = .ok (.getfield 26, 3) := by decide +kernel
theorem dX3_receiptsOf_4 : decode cX3_receiptsOf 4 = .ok (.iload_n 1, 1) := by decide +kernel
theorem dX3_receiptsOf_5 : decode cX3_receiptsOf 5 = .ok (.iconst 5, 1) := by decide +kernel
theorem dX3_receiptsOf_6 : decode cX3_receiptsOf 6 = .ok (.invokevirtual 54, 3) := by decide +kernel
theorem dX3_receiptsOf_9 : decode cX3_receiptsOf 9 = .ok (.aload_n 0, 1) := by decide +kernel
theorem dX3_receiptsOf_10 : decode cX3_receiptsOf 10 = .ok (.getfield 26, 3) := by decide +kernel
theorem dX3_receiptsOf_13 : decode cX3_receiptsOf 13 = .ok (.iload_n 1, 1) := by decide +kernel
theorem dX3_receiptsOf_14 : decode cX3_receiptsOf 14 = .ok (.bipush 7, 2) := by decide +kernel
theorem dX3_receiptsOf_16 : decode cX3_receiptsOf 16 = .ok (.invokevirtual 54, 3) := by decide +kernel
theorem dX3_receiptsOf_19 : decode cX3_receiptsOf 19 = .ok (.imul, 1) := by decide +kernel
theorem dX3_receiptsOf_20 : decode cX3_receiptsOf 20 = .ok (.ireturn, 1) := by decide +kernel
theorem dX3_partOf_0 : decode cX3_partOf 0 = .ok (.aload_n 0, 1) := by decide +kernel
theorem dX3_partOf_1 : decode cX3_partOf 1 = .ok (.aload_n 0, 1) := by decide +kernel
theorem dX3_partOf_2 : decode cX3_partOf 2 = .ok (.getfield 26, 3) := by decide +kernel
theorem dX3_partOf_5 : decode cX3_partOf 5 = .ok (.iload_n 1, 1) := by decide +kernel
theorem dX3_partOf_6 : decode cX3_partOf 6 = .ok (.iconst 1, 1) := by decide +kernel
theorem dX3_partOf_7 : decode cX3_partOf 7 = .ok (.invokevirtual 54, 3) := by decide +kernel
theorem dX3_partOf_10 : decode cX3_partOf 10 = .ok (.aload_n 0, 1) := by decide +kernel
theorem dX3_partOf_11 : decode cX3_partOf 11 = .ok (.getfield 26, 3) := by decide +kernel
theorem dX3_partOf_14 : decode cX3_partOf 14 = .ok (.iload_n 1, 1) := by decide +kernel
theorem dX3_partOf_15 : decode cX3_partOf 15 = .ok (.iconst 2, 1) := by decide +kernel
theorem dX3_partOf_16 : decode cX3_partOf 16 = .ok (.invokevirtual 54, 3) := by decide +kernel
theorem dX3_partOf_19 : decode cX3_partOf 19 = .ok (.invokevirtual 97, 3) := by decide +kernel
theorem dX3_partOf_22 : decode cX3_partOf 22 = .ok (.istore_n 2, 1) := by decide +kernel
theorem dX3_partOf_23 : decode cX3_partOf 23 = .ok (.aload_n 0, 1) := by decide +kernel
theorem dX3_partOf_24 : decode cX3_partOf 24 = .ok (.iload_n 1, 1) := by decide +kernel
theorem dX3_partOf_25 : decode cX3_partOf 25 = .ok (.invokevirtual 100, 3) := by decide +kernel
theorem dX3_partOf_28 : decode cX3_partOf 28 = .ok (.iload_n 2, 1) := by decide +kernel
theorem dX3_partOf_29 : decode cX3_partOf 29 = .ok (.imul, 1) := by decide +kernel
theorem dX3_partOf_30 : decode cX3_partOf 30 = .ok (.bipush 100, 2) := by decide +kernel
theorem dX3_partOf_32 : decode cX3_partOf 32 = .ok (.idiv, 1) := by decide +kernel
theorem dX3_partOf_33 : decode cX3_partOf 33 = .ok (.ireturn, 1) := by decide +kernel
theorem dX3_measureOf_0 : decode cX3_measureOf 0 = .ok (.iload_n 2, 1) := by decide +kernel
theorem dX3_measureOf_1 : decode cX3_measureOf 1 = .ok (.tableswitch 65 0 4 #[35, 37, 43, 53, 59], 35) := by decide +kernel
theorem dX3_measureOf_36 : decode cX3_measureOf 36 = .ok (.iconst 1, 1) := by decide +kernel
theorem dX3_measureOf_37 : decode cX3_measureOf 37 = .ok (.ireturn, 1) := by decide +kernel
theorem dX3_measureOf_38 : decode cX3_measureOf 38 = .ok (.aload_n 0, 1) := by decide +kernel
theorem dX3_measureOf_39 : decode cX3_measureOf 39 = .ok (.iload_n 1, 1) := by decide +kernel
theorem dX3_measureOf_40 : decode cX3_measureOf 40 = .ok (.invokevirtual 103, 3) := by decide +kernel
theorem dX3_measureOf_43 : decode cX3_measureOf 43 = .ok (.ireturn, 1) := by decide +kernel
theorem dX3_measureOf_44 : decode cX3_measureOf 44 = .ok (.aload_n 0, 1) := by decide +kernel
theorem dX3_measureOf_45 : decode cX3_measureOf 45 = .ok (.getfield 26, 3) := by decide +kernel
theorem dX3_measureOf_48 : decode cX3_measureOf 48 = .ok (.iload_n 1, 1) := by decide +kernel
theorem dX3_measureOf_49 : decode cX3_measureOf 49 = .ok (.iconst 5, 1) := by decide +kernel
theorem dX3_measureOf_50 : decode cX3_measureOf 50 = .ok (.invokevirtual 54, 3) := by decide +kernel
theorem dX3_measureOf_53 : decode cX3_measureOf 53 = .ok (.ireturn, 1) := by decide +kernel
theorem dX3_measureOf_54 : decode cX3_measureOf 54 = .ok (.aload_n 0, 1) := by decide +kernel
theorem dX3_measureOf_55 : decode cX3_measureOf 55 = .ok (.iload_n 1, 1) := by decide +kernel
theorem dX3_measureOf_56 : decode cX3_measureOf 56 = .ok (.invokevirtual 100, 3) := by decide +kernel
theorem dX3_measureOf_59 : decode cX3_measureOf 59 = .ok (.ireturn, 1) := by decide +kernel
theorem dX3_measureOf_60 : decode cX3_measureOf 60 = .ok (.aload_n 0, 1) := by decide +kernel
theorem dX3_measureOf_61 : decode cX3_measureOf 61 = .ok (.iload_n 1, 1) := by decide +kernel
theorem dX3_measureOf_62 : decode cX3_measureOf 62 = .ok (.invokevirtual 106, 3) := by decide +kernel
theorem dX3_measureOf_65 : decode cX3_measureOf 65 = .ok (.ireturn, 1) := by decide +kernel
theorem dX3_measureOf_66 : decode cX3_measureOf 66 = .ok (.aload_n 0, 1) := by decide +kernel
theorem dX3_measureOf_67 : decode cX3_measureOf 67 = .ok (.iload_n 1, 1) := by decide +kernel
theorem dX3_measureOf_68 : decode cX3_measureOf 68 = .ok (.invokevirtual 109, 3) := by decide +kernel
theorem dX3_measureOf_71 : decode cX3_measureOf 71 = .ok (.ireturn, 1) := by decide +kernel
theorem dX3_total_0 : decode cX3_total 0 = .ok (.iconst 0, 1) := by decide +kernel
theorem dX3_total_1 : decode cX3_total 1 = .ok (.istore 4, 2) := by decide +kernel
theorem dX3_total_3 : decode cX3_total 3 = .ok (.iconst 0, 1) := by decide +kernel
theorem dX3_total_4 : decode cX3_total 4 = .ok (.istore 5, 2) := by decide +kernel
theorem dX3_total_6 : decode cX3_total 6 = .ok (.iload 5, 2) := by decide +kernel
theorem dX3_total_8 : decode cX3_total 8 = .ok (.aload_n 0, 1) := by decide +kernel
theorem dX3_total_9 : decode cX3_total 9 = .ok (.getfield 26, 3) := by decide +kernel
theorem dX3_total_12 : decode cX3_total 12 = .ok (.invokevirtual 63, 3) := by decide +kernel
theorem dX3_total_15 : decode cX3_total 15 = .ok (.if_icmp .ge 61, 3) := by decide +kernel
theorem dX3_total_18 : decode cX3_total 18 = .ok (.iload_n 2, 1) := by decide +kernel
theorem dX3_total_19 : decode cX3_total 19 = .ok (.iconst (-1), 1) := by decide +kernel
theorem dX3_total_20 : decode cX3_total 20 = .ok (.if_icmp .eq 17, 3) := by decide +kernel
theorem dX3_total_23 : decode cX3_total 23 = .ok (.aload_n 0, 1) := by decide +kernel
theorem dX3_total_24 : decode cX3_total 24 = .ok (.getfield 26, 3) := by decide +kernel
theorem dX3_total_27 : decode cX3_total 27 = .ok (.iload 5, 2) := by decide +kernel
theorem dX3_total_29 : decode cX3_total 29 = .ok (.iload_n 2, 1) := by decide +kernel
theorem dX3_total_30 : decode cX3_total 30 = .ok (.invokevirtual 54, 3) := by decide +kernel
theorem dX3_total_33 : decode cX3_total 33 = .ok (.iload_n 3, 1) := by decide +kernel
theorem dX3_total_34 : decode cX3_total 34 = .ok (.if_icmp .ne 7, 3) := by decide +kernel
theorem dX3_total_37 : decode cX3_total 37 = .ok (.iconst 1, 1) := by decide +kernel
theorem dX3_total_38 : decode cX3_total 38 = .ok (.goto 4, 3) := by decide +kernel
theorem dX3_total_41 : decode cX3_total 41 = .ok (.iconst 0, 1) := by decide +kernel
theorem dX3_total_42 : decode cX3_total 42 = .ok (.istore 6, 2) := by decide +kernel
theorem dX3_total_44 : decode cX3_total 44 = .ok (.iload 6, 2) := by decide +kernel
theorem dX3_total_46 : decode cX3_total 46 = .ok (.ifCond .eq 24, 3) := by decide +kernel
theorem dX3_total_49 : decode cX3_total 49 = .ok (.aload_n 0, 1) := by decide +kernel
theorem dX3_total_50 : decode cX3_total 50 = .ok (.iload 5, 2) := by decide +kernel
theorem dX3_total_52 : decode cX3_total 52 = .ok (.invokevirtual 90, 3) := by decide +kernel
theorem dX3_total_55 : decode cX3_total 55 = .ok (.ifCond .ne 15, 3) := by decide +kernel
theorem dX3_total_58 : decode cX3_total 58 = .ok (.iload 4, 2) := by decide +kernel
theorem dX3_total_60 : decode cX3_total 60 = .ok (.aload_n 0, 1) := by decide +kernel
theorem dX3_total_61 : decode cX3_total 61 = .ok (.iload 5, 2) := by decide +kernel
theorem dX3_total_63 : decode cX3_total 63 = .ok (.iload_n 1, 1) := by decide +kernel
theorem dX3_total_64 : decode cX3_total 64 = .ok (.invokevirtual 112, 3) := by decide +kernel
theorem dX3_total_67 : decode cX3_total 67 = .ok (.iadd, 1) := by decide +kernel
theorem dX3_total_68 : decode cX3_total 68 = .ok (.istore 4, 2) := by decide +kernel
theorem dX3_total_70 : decode cX3_total 70 = .ok (.iinc 5 1, 3) := by decide +kernel
theorem dX3_total_73 : decode cX3_total 73 = .ok (.goto (-67), 3) := by decide +kernel
theorem dX3_total_76 : decode cX3_total 76 = .ok (.iload 4, 2) := by decide +kernel
theorem dX3_total_78 : decode cX3_total 78 = .ok (.ireturn, 1) := by decide +kernel
theorem dX3_isShownOn_0 : decode cX3_isShownOn 0 = .ok (.aload_n 0, 1) := by decide +kernel
theorem dX3_isShownOn_1 : decode cX3_isShownOn 1 = .ok (.getfield 26, 3) := by decide +kernel
theorem dX3_isShownOn_4 : decode cX3_isShownOn 4 = .ok (.iload_n 1, 1) := by decide +kernel
theorem dX3_isShownOn_5 : decode cX3_isShownOn 5 = .ok (.iconst 2, 1) := by decide +kernel
theorem dX3_isShownOn_6 : decode cX3_isShownOn 6 = .ok (.invokevirtual 54, 3) := by decide +kernel
theorem dX3_isShownOn_9 : decode cX3_isShownOn 9 = .ok (.iload_n 2, 1) := by decide +kernel
theorem dX3_isShownOn_10 : decode cX3_isShownOn 10 = .ok (.if_icmp .ne 20, 3) := by decide +kernel
theorem dX3_isShownOn_13 : decode cX3_isShownOn 13 = .ok (.aload_n 0, 1) := by decide +kernel
theorem dX3_isShownOn_14 : decode cX3_isShownOn 14 = .ok (.getfield 26, 3) := by decide +kernel
theorem dX3_isShownOn_17 : decode cX3_isShownOn 17 = .ok (.iload_n 1, 1) := by decide +kernel
theorem dX3_isShownOn_18 : decode cX3_isShownOn 18 = .ok (.bipush 8, 2) := by decide +kernel
theorem dX3_isShownOn_20 : decode cX3_isShownOn 20 = .ok (.invokevirtual 54, 3) := by decide +kernel
theorem dX3_isShownOn_23 : decode cX3_isShownOn 23 = .ok (.ifCond .ne 7, 3) := by decide +kernel
theorem dX3_isShownOn_26 : decode cX3_isShownOn 26 = .ok (.iconst 1, 1) := by decide +kernel
theorem dX3_isShownOn_27 : decode cX3_isShownOn 27 = .ok (.goto 4, 3) := by decide +kernel
theorem dX3_isShownOn_30 : decode cX3_isShownOn 30 = .ok (.iconst 0, 1) := by decide +kernel
theorem dX3_isShownOn_31 : decode cX3_isShownOn 31 = .ok (.ireturn, 1) := by decide +kernel
theorem dX3_isShownIn_0 : decode cX3_isShownIn 0 = .ok (.aload_n 0, 1) := by decide +kernel
theorem dX3_isShownIn_1 : decode cX3_isShownIn 1 = .ok (.getfield 26, 3) := by decide +kernel
theorem dX3_isShownIn_4 : decode cX3_isShownIn 4 = .ok (.iload_n 1, 1) := by decide +kernel
theorem dX3_isShownIn_5 : decode cX3_isShownIn 5 = .ok (.iconst 0, 1) := by decide +kernel
theorem dX3_isShownIn_6 : decode cX3_isShownIn 6 = .ok (.invokevirtual 54, 3) := by decide +kernel
theorem dX3_isShownIn_9 : decode cX3_isShownIn 9 = .ok (.iload_n 2, 1) := by decide +kernel
theorem dX3_isShownIn_10 : decode cX3_isShownIn 10 = .ok (.if_icmp .ne 33, 3) := by decide +kernel
theorem dX3_isShownIn_13 : decode cX3_isShownIn 13 = .ok (.aload_n 0, 1) := by decide +kernel
theorem dX3_isShownIn_14 : decode cX3_isShownIn 14 = .ok (.getfield 26, 3) := by decide +kernel
theorem dX3_isShownIn_17 : decode cX3_isShownIn 17 = .ok (.iload_n 1, 1) := by decide +kernel
theorem dX3_isShownIn_18 : decode cX3_isShownIn 18 = .ok (.iconst 2, 1) := by decide +kernel
theorem dX3_isShownIn_19 : decode cX3_isShownIn 19 = .ok (.invokevirtual 54, 3) := by decide +kernel
theorem dX3_isShownIn_22 : decode cX3_isShownIn 22 = .ok (.iload_n 3, 1) := by decide +kernel
theorem dX3_isShownIn_23 : decode cX3_isShownIn 23 = .ok (.if_icmp .ne 20, 3) := by decide +kernel
theorem dX3_isShownIn_26 : decode cX3_isShownIn 26 = .ok (.aload_n 0, 1) := by decide +kernel
theorem dX3_isShownIn_27 : decode cX3_isShownIn 27 = .ok (.getfield 26, 3) := by decide +kernel
theorem dX3_isShownIn_30 : decode cX3_isShownIn 30 = .ok (.iload_n 1, 1) := by decide +kernel
theorem dX3_isShownIn_31 : decode cX3_isShownIn 31 = .ok (.bipush 8, 2) := by decide +kernel
theorem dX3_isShownIn_33 : decode cX3_isShownIn 33 = .ok (.invokevirtual 54, 3) := by decide +kernel
theorem dX3_isShownIn_36 : decode cX3_isShownIn 36 = .ok (.ifCond .ne 7, 3) := by decide +kernel
theorem dX3_isShownIn_39 : decode cX3_isShownIn 39 = .ok (.iconst 1, 1) := by decide +kernel
theorem dX3_isShownIn_40 : decode cX3_isShownIn 40 = .ok (.goto 4, 3) := by decide +kernel
theorem dX3_isShownIn_43 : decode cX3_isShownIn 43 = .ok (.iconst 0, 1) := by decide +kernel
theorem dX3_isShownIn_44 : decode cX3_isShownIn 44 = .ok (.ireturn, 1) := by decide +kernel
theorem dX3_showAfter_0 : decode cX3_showAfter 0 = .ok (.iconst (-1), 1) := by decide +kernel
theorem dX3_showAfter_1 : decode cX3_showAfter 1 = .ok (.istore 4, 2) := by decide +kernel
theorem dX3_showAfter_3 : decode cX3_showAfter 3 = .ok (.iconst 0, 1) := by decide +kernel
theorem dX3_showAfter_4 : decode cX3_showAfter 4 = .ok (.istore 5, 2) := by decide +kernel
theorem dX3_showAfter_6 : decode cX3_showAfter 6 = .ok (.iload 5, 2) := by decide +kernel
theorem dX3_showAfter_8 : decode cX3_showAfter 8 = .ok (.aload_n 0, 1) := by decide +kernel
theorem dX3_showAfter_9 : decode cX3_showAfter 9 = .ok (.getfield 26, 3) := by decide +kernel
theorem dX3_showAfter_12 : decode cX3_showAfter 12 = .ok (.invokevirtual 63, 3) := by decide +kernel
theorem dX3_showAfter_15 : decode cX3_showAfter 15 = .ok (.if_icmp .ge 75, 3) := by decide +kernel
theorem dX3_showAfter_18 : decode cX3_showAfter 18 = .ok (.aload_n 0, 1) := by decide +kernel
theorem dX3_showAfter_19 : decode cX3_showAfter 19 = .ok (.getfield 26, 3) := by decide +kernel
theorem dX3_showAfter_22 : decode cX3_showAfter 22 = .ok (.iload 5, 2) := by decide +kernel
theorem dX3_showAfter_24 : decode cX3_showAfter 24 = .ok (.iconst 3, 1) := by decide +kernel
theorem dX3_showAfter_25 : decode cX3_showAfter 25 = .ok (.invokevirtual 54, 3) := by decide +kernel
theorem dX3_showAfter_28 : decode cX3_showAfter 28 = .ok (.istore 6, 2) := by decide +kernel
theorem dX3_showAfter_30 : decode cX3_showAfter 30 = .ok (.iload 4, 2) := by decide +kernel
theorem dX3_showAfter_32 : decode cX3_showAfter 32 = .ok (.iconst (-1), 1) := by decide +kernel
theorem dX3_showAfter_33 : decode cX3_showAfter 33 = .ok (.if_icmp .eq 18, 3) := by decide +kernel
theorem dX3_showAfter_36 : decode cX3_showAfter 36 = .ok (.iload 6, 2) := by decide +kernel
theorem dX3_showAfter_38 : decode cX3_showAfter 38 = .ok (.aload_n 0, 1) := by decide +kernel
theorem dX3_showAfter_39 : decode cX3_showAfter 39 = .ok (.getfield 26, 3) := by decide +kernel
theorem dX3_showAfter_42 : decode cX3_showAfter 42 = .ok (.iload 4, 2) := by decide +kernel
theorem dX3_showAfter_44 : decode cX3_showAfter 44 = .ok (.iconst 3, 1) := by decide +kernel
theorem dX3_showAfter_45 : decode cX3_showAfter 45 = .ok (.invokevirtual 54, 3) := by decide +kernel
theorem dX3_showAfter_48 : decode cX3_showAfter 48 = .ok (.if_icmp .ge 7, 3) := by decide +kernel
theorem dX3_showAfter_51 : decode cX3_showAfter 51 = .ok (.iconst 1, 1) := by decide +kernel
theorem dX3_showAfter_52 : decode cX3_showAfter 52 = .ok (.goto 4, 3) := by decide +kernel
theorem dX3_showAfter_55 : decode cX3_showAfter 55 = .ok (.iconst 0, 1) := by decide +kernel
theorem dX3_showAfter_56 : decode cX3_showAfter 56 = .ok (.istore 7, 2) := by decide +kernel
theorem dX3_showAfter_58 : decode cX3_showAfter 58 = .ok (.iload 6, 2) := by decide +kernel
theorem dX3_showAfter_60 : decode cX3_showAfter 60 = .ok (.iload_n 3, 1) := by decide +kernel
theorem dX3_showAfter_61 : decode cX3_showAfter 61 = .ok (.if_icmp .le 23, 3) := by decide +kernel
theorem dX3_showAfter_64 : decode cX3_showAfter 64 = .ok (.iload 7, 2) := by decide +kernel
theorem dX3_showAfter_66 : decode cX3_showAfter 66 = .ok (.ifCond .eq 18, 3) := by decide +kernel
theorem dX3_showAfter_69 : decode cX3_showAfter 69 = .ok (.aload_n 0, 1) := by decide +kernel
theorem dX3_showAfter_70 : decode cX3_showAfter 70 = .ok (.iload 5, 2) := by decide +kernel
theorem dX3_showAfter_72 : decode cX3_showAfter 72 = .ok (.iload_n 1, 1) := by decide +kernel
theorem dX3_showAfter_73 : decode cX3_showAfter 73 = .ok (.iload_n 2, 1) := by decide +kernel
theorem dX3_showAfter_74 : decode cX3_showAfter 74 = .ok (.invokevirtual 115, 3) := by decide +kernel
theorem dX3_showAfter_77 : decode cX3_showAfter 77 = .ok (.ifCond .eq 7, 3) := by decide +kernel
theorem dX3_showAfter_80 : decode cX3_showAfter 80 = .ok (.iload 5, 2) := by decide +kernel
theorem dX3_showAfter_82 : decode cX3_showAfter 82 = .ok (.istore 4, 2) := by decide +kernel
theorem dX3_showAfter_84 : decode cX3_showAfter 84 = .ok (.iinc 5 1, 3) := by decide +kernel
theorem dX3_showAfter_87 : decode cX3_showAfter 87 = .ok (.goto (-81), 3) := by decide +kernel
theorem dX3_showAfter_90 : decode cX3_showAfter 90 = .ok (.iload 4, 2) := by decide +kernel
theorem dX3_showAfter_92 : decode cX3_showAfter 92 = .ok (.ireturn, 1) := by decide +kernel
theorem dX3_shownMinutes_0 : decode cX3_shownMinutes 0 = .ok (.iconst 0, 1) := by decide +kernel
theorem dX3_shownMinutes_1 : decode cX3_shownMinutes 1 = .ok (.istore_n 3, 1) := by decide +kernel
theorem dX3_shownMinutes_2 : decode cX3_shownMinutes 2 = .ok (.iconst 0, 1) := by decide +kernel
theorem dX3_shownMinutes_3 : decode cX3_shownMinutes 3 = .ok (.istore 4, 2) := by decide +kernel
theorem dX3_shownMinutes_5 : decode cX3_shownMinutes 5 = .ok (.iload 4, 2) := by decide +kernel
theorem dX3_shownMinutes_7 : decode cX3_shownMinutes 7 = .ok (.aload_n 0, 1) := by decide +kernel
theorem dX3_shownMinutes_8 : decode cX3_shownMinutes 8 = .ok (.getfield 26, 3) := by decide +kernel
theorem dX3_shownMinutes_11 : decode cX3_shownMinutes 11 = .ok (.invokevirtual 63, 3) := by decide +kernel
theorem dX3_shownMinutes_14 : decode cX3_shownMinutes 14 = .ok (.if_icmp .ge 29, 3) := by decide +kernel
theorem dX3_shownMinutes_17 : decode cX3_shownMinutes 17 = .ok (.aload_n 0, 1) := by decide +kernel
theorem dX3_shownMinutes_18 : decode cX3_shownMinutes 18 = .ok (.iload 4, 2) := by decide +kernel
theorem dX3_shownMinutes_20 : decode cX3_shownMinutes 20 = .ok (.iload_n 1, 1) := by decide +kernel
theorem dX3_shownMinutes_21 : decode cX3_shownMinutes 21 = .ok (.iload_n 2, 1) := by decide +kernel
theorem dX3_shownMinutes_22 : decode cX3_shownMinutes 22 = .ok (.invokevirtual 115, 3) := by decide +kernel
theorem dX3_shownMinutes_25 : decode cX3_shownMinutes 25 = .ok (.ifCond .eq 12, 3) := by decide +kernel
theorem dX3_shownMinutes_28 : decode cX3_shownMinutes 28 = .ok (.iload_n 3, 1) := by decide +kernel
theorem dX3_shownMinutes_29 : decode cX3_shownMinutes 29 = .ok (.aload_n 0, 1) := by decide +kernel
theorem dX3_shownMinutes_30 : decode cX3_shownMinutes 30 = .ok (.iload 4, 2) := by decide +kernel
theorem dX3_shownMinutes_32 : decode cX3_shownMinutes 32 = .ok (.invokevirtual 103, 3) := by decide +kernel
theorem dX3_shownMinutes_35 : decode cX3_shownMinutes 35 = .ok (.iadd, 1) := by decide +kernel
theorem dX3_shownMinutes_36 : decode cX3_shownMinutes 36 = .ok (.istore_n 3, 1) := by decide +kernel
theorem dX3_shownMinutes_37 : decode cX3_shownMinutes 37 = .ok (.iinc 4 1, 3) := by decide +kernel
theorem dX3_shownMinutes_40 : decode cX3_shownMinutes 40 = .ok (.goto (-35), 3) := by decide +kernel
theorem dX3_shownMinutes_43 : decode cX3_shownMinutes 43 = .ok (.iload_n 3, 1) := by decide +kernel
theorem dX3_shownMinutes_44 : decode cX3_shownMinutes 44 = .ok (.ireturn, 1) := by decide +kernel
theorem dX3_cleanedMinutes_0 : decode cX3_cleanedMinutes 0 = .ok (.iconst 0, 1) := by decide +kernel
theorem dX3_cleanedMinutes_1 : decode cX3_cleanedMinutes 1 = .ok (.istore_n 3, 1) := by decide +kernel
theorem dX3_cleanedMinutes_2 : decode cX3_cleanedMinutes 2 = .ok (.iconst 0, 1) := by decide +kernel
theorem dX3_cleanedMinutes_3 : decode cX3_cleanedMinutes 3 = .ok (.istore 4, 2) := by decide +kernel
theorem dX3_cleanedMinutes_5 : decode cX3_cleanedMinutes 5 = .ok (.iload 4, 2) := by decide +kernel
theorem dX3_cleanedMinutes_7 : decode cX3_cleanedMinutes 7 = .ok (.aload_n 0, 1) := by decide +kernel
theorem dX3_cleanedMinutes_8 : decode cX3_cleanedMinutes 8 = .ok (.getfield 26, 3) := by decide +kernel
theorem dX3_cleanedMinutes_11 : decode cX3_cleanedMinutes 11 = .ok (.invokevirtual 63, 3) := by decide +kernel
theorem dX3_cleanedMinutes_14 : decode cX3_cleanedMinutes 14 = .ok (.if_icmp .ge 46, 3) := by decide +kernel
theorem dX3_cleanedMinutes_17 : decode cX3_cleanedMinutes 17 = .ok (.aload_n 0, 1) := by decide +kernel
theorem dX3_cleanedMinutes_18 : decode cX3_cleanedMinutes 18 = .ok (.iload 4, 2) := by decide +kernel
theorem dX3_cleanedMinutes_20 : decode cX3_cleanedMinutes 20 = .ok (.iload_n 1, 1) := by decide +kernel
theorem dX3_cleanedMinutes_21 : decode cX3_cleanedMinutes 21 = .ok (.iload_n 2, 1) := by decide +kernel
theorem dX3_cleanedMinutes_22 : decode cX3_cleanedMinutes 22 = .ok (.invokevirtual 115, 3) := by decide +kernel
theorem dX3_cleanedMinutes_25 : decode cX3_cleanedMinutes 25 = .ok (.ifCond .eq 29, 3) := by decide +kernel
theorem dX3_cleanedMinutes_28 : decode cX3_cleanedMinutes 28 = .ok (.iload_n 3, 1) := by decide +kernel
theorem dX3_cleanedMinutes_29 : decode cX3_cleanedMinutes 29 = .ok (.aload_n 0, 1) := by decide +kernel
theorem dX3_cleanedMinutes_30 : decode cX3_cleanedMinutes 30 = .ok (.iload 4, 2) := by decide +kernel
theorem dX3_cleanedMinutes_32 : decode cX3_cleanedMinutes 32 = .ok (.invokevirtual 118, 3) := by decide +kernel
theorem dX3_cleanedMinutes_35 : decode cX3_cleanedMinutes 35 = .ok (.sipush 960, 3) := by decide +kernel
theorem dX3_cleanedMinutes_38 : decode cX3_cleanedMinutes 38 = .ok (.aload_n 0, 1) := by decide +kernel
theorem dX3_cleanedMinutes_39 : decode cX3_cleanedMinutes 39 = .ok (.getfield 26, 3) := by decide +kernel
theorem dX3_cleanedMinutes_42 : decode cX3_cleanedMinutes 42 = .ok (.iload 4, 2) := by decide +kernel
theorem dX3_cleanedMinutes_44 : decode cX3_cleanedMinutes 44 = .ok (.iconst 4, 1) := by decide +kernel
theorem dX3_cleanedMinutes_45 : decode cX3_cleanedMinutes 45 = .ok (.invokevirtual 54, 3) := by decide +kernel
theorem dX3_cleanedMinutes_48 : decode cX3_cleanedMinutes 48 = .ok (.isub, 1) := by decide +kernel
theorem dX3_cleanedMinutes_49 : decode cX3_cleanedMinutes 49 = .ok (.invokestatic 121, 3) := by decide +kernel
theorem dX3_cleanedMinutes_52 : decode cX3_cleanedMinutes 52 = .ok (.iadd, 1) := by decide +kernel
theorem dX3_cleanedMinutes_53 : decode cX3_cleanedMinutes 53 = .ok (.istore_n 3, 1) := by decide +kernel
theorem dX3_cleanedMinutes_54 : decode cX3_cleanedMinutes 54 = .ok (.iinc 4 1, 3) := by decide +kernel
theorem dX3_cleanedMinutes_57 : decode cX3_cleanedMinutes 57 = .ok (.goto (-52), 3) := by decide +kernel
theorem dX3_cleanedMinutes_60 : decode cX3_cleanedMinutes 60 = .ok (.iload_n 3, 1) := by decide +kernel
theorem dX3_cleanedMinutes_61 : decode cX3_cleanedMinutes 61 = .ok (.ireturn, 1) := by decide +kernel
theorem dX3_greatestEnd_0 : decode cX3_greatestEnd 0 = .ok (.iconst (-1), 1) := by decide +kernel
theorem dX3_greatestEnd_1 : decode cX3_greatestEnd 1 = .ok (.istore_n 3, 1) := by decide +kernel
theorem dX3_greatestEnd_2 : decode cX3_greatestEnd 2 = .ok (.iconst 0, 1) := by decide +kernel
theorem dX3_greatestEnd_3 : decode cX3_greatestEnd 3 = .ok (.istore 4, 2) := by decide +kernel
theorem dX3_greatestEnd_5 : decode cX3_greatestEnd 5 = .ok (.iload 4, 2) := by decide +kernel
theorem dX3_greatestEnd_7 : decode cX3_greatestEnd 7 = .ok (.aload_n 0, 1) := by decide +kernel
theorem dX3_greatestEnd_8 : decode cX3_greatestEnd 8 = .ok (.getfield 26, 3) := by decide +kernel
theorem dX3_greatestEnd_11 : decode cX3_greatestEnd 11 = .ok (.invokevirtual 63, 3) := by decide +kernel
theorem dX3_greatestEnd_14 : decode cX3_greatestEnd 14 = .ok (.if_icmp .ge 35, 3) := by decide +kernel
theorem dX3_greatestEnd_17 : decode cX3_greatestEnd 17 = .ok (.aload_n 0, 1) := by decide +kernel
theorem dX3_greatestEnd_18 : decode cX3_greatestEnd 18 = .ok (.iload 4, 2) := by decide +kernel
theorem dX3_greatestEnd_20 : decode cX3_greatestEnd 20 = .ok (.iload_n 1, 1) := by decide +kernel
theorem dX3_greatestEnd_21 : decode cX3_greatestEnd 21 = .ok (.iload_n 2, 1) := by decide +kernel
theorem dX3_greatestEnd_22 : decode cX3_greatestEnd 22 = .ok (.invokevirtual 115, 3) := by decide +kernel
theorem dX3_greatestEnd_25 : decode cX3_greatestEnd 25 = .ok (.ifCond .eq 18, 3) := by decide +kernel
theorem dX3_greatestEnd_28 : decode cX3_greatestEnd 28 = .ok (.iload_n 3, 1) := by decide +kernel
theorem dX3_greatestEnd_29 : decode cX3_greatestEnd 29 = .ok (.aload_n 0, 1) := by decide +kernel
theorem dX3_greatestEnd_30 : decode cX3_greatestEnd 30 = .ok (.getfield 26, 3) := by decide +kernel
theorem dX3_greatestEnd_33 : decode cX3_greatestEnd 33 = .ok (.iload 4, 2) := by decide +kernel
theorem dX3_greatestEnd_35 : decode cX3_greatestEnd 35 = .ok (.iconst 4, 1) := by decide +kernel
theorem dX3_greatestEnd_36 : decode cX3_greatestEnd 36 = .ok (.invokevirtual 54, 3) := by decide +kernel
theorem dX3_greatestEnd_39 : decode cX3_greatestEnd 39 = .ok (.invokestatic 58, 3) := by decide +kernel
theorem dX3_greatestEnd_42 : decode cX3_greatestEnd 42 = .ok (.istore_n 3, 1) := by decide +kernel
theorem dX3_greatestEnd_43 : decode cX3_greatestEnd 43 = .ok (.iinc 4 1, 3) := by decide +kernel
theorem dX3_greatestEnd_46 : decode cX3_greatestEnd 46 = .ok (.goto (-41), 3) := by decide +kernel
theorem dX3_greatestEnd_49 : decode cX3_greatestEnd 49 = .ok (.iload_n 3, 1) := by decide +kernel
theorem dX3_greatestEnd_50 : decode cX3_greatestEnd 50 = .ok (.ireturn, 1) := by decide +kernel
theorem dX3_isRunning_0 : decode cX3_isRunning 0 = .ok (.aload_n 0, 1) := by decide +kernel
theorem dX3_isRunning_1 : decode cX3_isRunning 1 = .ok (.getfield 26, 3) := by decide +kernel
theorem dX3_isRunning_4 : decode cX3_isRunning 4 = .ok (.iload_n 1, 1) := by decide +kernel
theorem dX3_isRunning_5 : decode cX3_isRunning 5 = .ok (.iconst 3, 1) := by decide +kernel
theorem dX3_isRunning_6 : decode cX3_isRunning 6 = .ok (.invokevirtual 54, 3) := by decide +kernel
theorem dX3_isRunning_9 : decode cX3_isRunning 9 = .ok (.iload_n 3, 1) := by decide +kernel
theorem dX3_isRunning_10 : decode cX3_isRunning 10 = .ok (.if_icmp .gt 29, 3) := by decide +kernel
theorem dX3_isRunning_13 : decode cX3_isRunning 13 = .ok (.iload_n 3, 1) := by decide +kernel
theorem dX3_isRunning_14 : decode cX3_isRunning 14 = .ok (.aload_n 0, 1) := by decide +kernel
theorem dX3_isRunning_15 : decode cX3_isRunning 15 = .ok (.getfield 26, 3) := by decide +kernel
theorem dX3_isRunning_18 : decode cX3_isRunning 18 = .ok (.iload_n 1, 1) := by decide +kernel
theorem dX3_isRunning_19 : decode cX3_isRunning 19 = .ok (.iconst 4, 1) := by decide +kernel
theorem dX3_isRunning_20 : decode cX3_isRunning 20 = .ok (.invokevirtual 54, 3) := by decide +kernel
theorem dX3_isRunning_23 : decode cX3_isRunning 23 = .ok (.if_icmp .ge 16, 3) := by decide +kernel
theorem dX3_isRunning_26 : decode cX3_isRunning 26 = .ok (.aload_n 0, 1) := by decide +kernel
theorem dX3_isRunning_27 : decode cX3_isRunning 27 = .ok (.iload_n 1, 1) := by decide +kernel
theorem dX3_isRunning_28 : decode cX3_isRunning 28 = .ok (.iload_n 2, 1) := by decide +kernel
theorem dX3_isRunning_29 : decode cX3_isRunning 29 = .ok (.invokevirtual 124, 3) := by decide +kernel
theorem dX3_isRunning_32 : decode cX3_isRunning 32 = .ok (.ifCond .eq 7, 3) := by decide +kernel
theorem dX3_isRunning_35 : decode cX3_isRunning 35 = .ok (.iconst 1, 1) := by decide +kernel
theorem dX3_isRunning_36 : decode cX3_isRunning 36 = .ok (.goto 4, 3) := by decide +kernel
theorem dX3_isRunning_39 : decode cX3_isRunning 39 = .ok (.iconst 0, 1) := by decide +kernel
theorem dX3_isRunning_40 : decode cX3_isRunning 40 = .ok (.ireturn, 1) := by decide +kernel
theorem dX3_running_0 : decode cX3_running 0 = .ok (.iconst 0, 1) := by decide +kernel
theorem dX3_running_1 : decode cX3_running 1 = .ok (.istore 4, 2) := by decide +kernel
theorem dX3_running_3 : decode cX3_running 3 = .ok (.iconst 0, 1) := by decide +kernel
theorem dX3_running_4 : decode cX3_running 4 = .ok (.istore 5, 2) := by decide +kernel
theorem dX3_running_6 : decode cX3_running 6 = .ok (.iload 5, 2) := by decide +kernel
theorem dX3_running_8 : decode cX3_running 8 = .ok (.aload_n 0, 1) := by decide +kernel
theorem dX3_running_9 : decode cX3_running 9 = .ok (.getfield 26, 3) := by decide +kernel
theorem dX3_running_12 : decode cX3_running 12 = .ok (.invokevirtual 63, 3) := by decide +kernel
theorem dX3_running_15 : decode cX3_running 15 = .ok (.if_icmp .ge 32, 3) := by decide +kernel
theorem dX3_running_18 : decode cX3_running 18 = .ok (.aload_n 0, 1) := by decide +kernel
theorem dX3_running_19 : decode cX3_running 19 = .ok (.iload 5, 2) := by decide +kernel
theorem dX3_running_21 : decode cX3_running 21 = .ok (.iload_n 2, 1) := by decide +kernel
theorem dX3_running_22 : decode cX3_running 22 = .ok (.iload_n 3, 1) := by decide +kernel
theorem dX3_running_23 : decode cX3_running 23 = .ok (.invokevirtual 127, 3) := by decide +kernel
theorem dX3_running_26 : decode cX3_running 26 = .ok (.ifCond .eq 15, 3) := by decide +kernel
theorem dX3_running_29 : decode cX3_running 29 = .ok (.iload 4, 2) := by decide +kernel
theorem dX3_running_31 : decode cX3_running 31 = .ok (.aload_n 0, 1) := by decide +kernel
theorem dX3_running_32 : decode cX3_running 32 = .ok (.iload 5, 2) := by decide +kernel
theorem dX3_running_34 : decode cX3_running 34 = .ok (.iload_n 1, 1) := by decide +kernel
theorem dX3_running_35 : decode cX3_running 35 = .ok (.invokevirtual 112, 3) := by decide +kernel
theorem dX3_running_38 : decode cX3_running 38 = .ok (.iadd, 1) := by decide +kernel
theorem dX3_running_39 : decode cX3_running 39 = .ok (.istore 4, 2) := by decide +kernel
theorem dX3_running_41 : decode cX3_running 41 = .ok (.iinc 5 1, 3) := by decide +kernel
theorem dX3_running_44 : decode cX3_running 44 = .ok (.goto (-38), 3) := by decide +kernel
theorem dX3_running_47 : decode cX3_running 47 = .ok (.iload 4, 2) := by decide +kernel
theorem dX3_running_49 : decode cX3_running 49 = .ok (.ireturn, 1) := by decide +kernel
theorem dX3_firstRunning_0 : decode cX3_firstRunning 0 = .ok (.iconst 0, 1) := by decide +kernel
theorem dX3_firstRunning_1 : decode cX3_firstRunning 1 = .ok (.istore_n 3, 1) := by decide +kernel
theorem dX3_firstRunning_2 : decode cX3_firstRunning 2 = .ok (.iload_n 3, 1) := by decide +kernel
theorem dX3_firstRunning_3 : decode cX3_firstRunning 3 = .ok (.aload_n 0, 1) := by decide +kernel
theorem dX3_firstRunning_4 : decode cX3_firstRunning 4 = .ok (.getfield 26, 3) := by decide +kernel
theorem dX3_firstRunning_7 : decode cX3_firstRunning 7 = .ok (.invokevirtual 63, 3) := by decide +kernel
theorem dX3_firstRunning_10 : decode cX3_firstRunning 10 = .ok (.if_icmp .ge 21, 3) := by decide +kernel
theorem dX3_firstRunning_13 : decode cX3_firstRunning 13 = .ok (.aload_n 0, 1) := by decide +kernel
theorem dX3_firstRunning_14 : decode cX3_firstRunning 14 = .ok (.iload_n 3, 1) := by decide +kernel
theorem dX3_firstRunning_15 : decode cX3_firstRunning 15 = .ok (.iload_n 1, 1) := by decide +kernel
theorem dX3_firstRunning_16 : decode cX3_firstRunning 16 = .ok (.iload_n 2, 1) := by decide +kernel
theorem dX3_firstRunning_17 : decode cX3_firstRunning 17 = .ok (.invokevirtual 127, 3) := by decide +kernel
theorem dX3_firstRunning_20 : decode cX3_firstRunning 20 = .ok (.ifCond .eq 5, 3) := by decide +kernel
theorem dX3_firstRunning_23 : decode cX3_firstRunning 23 = .ok (.iload_n 3, 1) := by decide +kernel
theorem dX3_firstRunning_24 : decode cX3_firstRunning 24 = .ok (.ireturn, 1) := by decide +kernel
theorem dX3_firstRunning_25 : decode cX3_firstRunning 25 = .ok (.iinc 3 1, 3) := by decide +kernel
theorem dX3_firstRunning_28 : decode cX3_firstRunning 28 = .ok (.goto (-26), 3) := by decide +kernel
theorem dX3_firstRunning_31 : decode cX3_firstRunning 31 = .ok (.iconst (-1), 1) := by decide +kernel
theorem dX3_firstRunning_32 : decode cX3_firstRunning 32 = .ok (.ireturn, 1) := by decide +kernel
theorem dX3_cleanedHalls_0 : decode cX3_cleanedHalls 0 = .ok (.iconst 0, 1) := by decide +kernel
theorem dX3_cleanedHalls_1 : decode cX3_cleanedHalls 1 = .ok (.istore_n 3, 1) := by decide +kernel
theorem dX3_cleanedHalls_2 : decode cX3_cleanedHalls 2 = .ok (.iconst 0, 1) := by decide +kernel
theorem dX3_cleanedHalls_3 : decode cX3_cleanedHalls 3 = .ok (.istore 4, 2) := by decide +kernel
theorem dX3_cleanedHalls_5 : decode cX3_cleanedHalls 5 = .ok (.iload 4, 2) := by decide +kernel
theorem dX3_cleanedHalls_7 : decode cX3_cleanedHalls 7 = .ok (.aload_n 0, 1) := by decide +kernel
theorem dX3_cleanedHalls_8 : decode cX3_cleanedHalls 8 = .ok (.getfield 26, 3) := by decide +kernel
theorem dX3_cleanedHalls_11 : decode cX3_cleanedHalls 11 = .ok (.invokevirtual 63, 3) := by decide +kernel
theorem dX3_cleanedHalls_14 : decode cX3_cleanedHalls 14 = .ok (.if_icmp .ge 53, 3) := by decide +kernel
theorem dX3_cleanedHalls_17 : decode cX3_cleanedHalls 17 = .ok (.aload_n 0, 1) := by decide +kernel
theorem dX3_cleanedHalls_18 : decode cX3_cleanedHalls 18 = .ok (.getfield 26, 3) := by decide +kernel
theorem dX3_cleanedHalls_21 : decode cX3_cleanedHalls 21 = .ok (.iload 4, 2) := by decide +kernel
theorem dX3_cleanedHalls_23 : decode cX3_cleanedHalls 23 = .ok (.iconst 4, 1) := by decide +kernel
theorem dX3_cleanedHalls_24 : decode cX3_cleanedHalls 24 = .ok (.invokevirtual 54, 3) := by decide +kernel
theorem dX3_cleanedHalls_27 : decode cX3_cleanedHalls 27 = .ok (.istore 5, 2) := by decide +kernel
theorem dX3_cleanedHalls_29 : decode cX3_cleanedHalls 29 = .ok (.iload 5, 2) := by decide +kernel
theorem dX3_cleanedHalls_31 : decode cX3_cleanedHalls 31 = .ok (.iload_n 2, 1) := by decide +kernel
theorem dX3_cleanedHalls_32 : decode cX3_cleanedHalls 32 = .ok (.if_icmp .gt 29, 3) := by decide +kernel
theorem dX3_cleanedHalls_35 : decode cX3_cleanedHalls 35 = .ok (.iload_n 2, 1) := by decide +kernel
theorem dX3_cleanedHalls_36 : decode cX3_cleanedHalls 36 = .ok (.iload 5, 2) := by decide +kernel
theorem dX3_cleanedHalls_38 : decode cX3_cleanedHalls 38 = .ok (.aload_n 0, 1) := by decide +kernel
theorem dX3_cleanedHalls_39 : decode cX3_cleanedHalls 39 = .ok (.iload 4, 2) := by decide +kernel
theorem dX3_cleanedHalls_41 : decode cX3_cleanedHalls 41 = .ok (.invokevirtual 118, 3) := by decide +kernel
theorem dX3_cleanedHalls_44 : decode cX3_cleanedHalls 44 = .ok (.iadd, 1) := by decide +kernel
theorem dX3_cleanedHalls_45 : decode cX3_cleanedHalls 45 = .ok (.if_icmp .ge 16, 3) := by decide +kernel
theorem dX3_cleanedHalls_48 : decode cX3_cleanedHalls 48 = .ok (.aload_n 0, 1) := by decide +kernel
theorem dX3_cleanedHalls_49 : decode cX3_cleanedHalls 49 = .ok (.iload 4, 2) := by decide +kernel
theorem dX3_cleanedHalls_51 : decode cX3_cleanedHalls 51 = .ok (.iload_n 1, 1) := by decide +kernel
theorem dX3_cleanedHalls_52 : decode cX3_cleanedHalls 52 = .ok (.invokevirtual 124, 3) := by decide +kernel
theorem dX3_cleanedHalls_55 : decode cX3_cleanedHalls 55 = .ok (.ifCond .eq 6, 3) := by decide +kernel
theorem dX3_cleanedHalls_58 : decode cX3_cleanedHalls 58 = .ok (.iinc 3 1, 3) := by decide +kernel
theorem dX3_cleanedHalls_61 : decode cX3_cleanedHalls 61 = .ok (.iinc 4 1, 3) := by decide +kernel
theorem dX3_cleanedHalls_64 : decode cX3_cleanedHalls 64 = .ok (.goto (-59), 3) := by decide +kernel
theorem dX3_cleanedHalls_67 : decode cX3_cleanedHalls 67 = .ok (.iload_n 3, 1) := by decide +kernel
theorem dX3_cleanedHalls_68 : decode cX3_cleanedHalls 68 = .ok (.ireturn, 1) := by decide +kernel
theorem dX4_init_0 : decode cX4_init 0 = .ok (.aload_n 0, 1) := by decide +kernel
theorem dX4_init_1 : decode cX4_init 1 = .ok (.invokespecial 3, 3) := by decide +kernel
theorem dX4_init_4 : decode cX4_init 4 = .ok (.aload_n 0, 1) := by decide +kernel
theorem dX4_init_5 : decode cX4_init 5 = .ok (.iconst 0, 1) := by decide +kernel
theorem dX4_init_6 : decode cX4_init 6 = .ok (.putfield 9, 3) := by decide +kernel
theorem dX4_init_9 : decode cX4_init 9 = .ok (.aload_n 0, 1) := by decide +kernel
theorem dX4_init_10 : decode cX4_init 10 = .ok (.iload_n 1, 1) := by decide +kernel
theorem dX4_init_11 : decode cX4_init 11 = .ok (.putfield 15, 3) := by decide +kernel
theorem dX4_init_14 : decode cX4_init 14 = .ok (.aload_n 0, 1) := by decide +kernel
theorem dX4_init_15 : decode cX4_init 15 = .ok (.iload_n 2, 1) := by decide +kernel
theorem dX4_init_16 : decode cX4_init 16 = .ok (.putfield 18, 3) := by decide +kernel
theorem dX4_init_19 : decode cX4_init 19 = .ok (.aload_n 0, 1) := by decide +kernel
theorem dX4_init_20 : decode cX4_init 20 = .ok (.iload_n 1, 1) := by decide +kernel
theorem dX4_init_21 : decode cX4_init 21 = .ok (.iload_n 2, 1) := by decide +kernel
theorem dX4_init_22 : decode cX4_init 22 = .ok (.imul, 1) := by decide +kernel
theorem dX4_init_23 : decode cX4_init 23 = .ok (.iconst 0, 1) := by decide +kernel
theorem dX4_init_24 : decode cX4_init 24 = .ok (.invokestatic 21, 3) := by decide +kernel
theorem dX4_init_27 : decode cX4_init 27 = .ok (.newarray .int, 2) := by decide +kernel
theorem dX4_init_29 : decode cX4_init 29 = .ok (.putfield 27, 3) := by decide +kernel
theorem dX4_init_32 : decode cX4_init 32 = .ok (.return_, 1) := by decide +kernel
theorem dX4_size_0 : decode cX4_size 0 = .ok (.aload_n 0, 1) := by decide +kernel
theorem dX4_size_1 : decode cX4_size 1 = .ok (.getfield 9, 3) := by decide +kernel
theorem dX4_size_4 : decode cX4_size 4 = .ok (.ireturn, 1) := by decide +kernel
theorem dX4_isRow_0 : decode cX4_isRow 0 = .ok (.iload_n 1, 1) := by decide +kernel
theorem dX4_isRow_1 : decode cX4_isRow 1 = .ok (.ifCond .lt 15, 3) := by decide +kernel
theorem dX4_isRow_4 : decode cX4_isRow 4 = .ok (.iload_n 1, 1) := by decide +kernel
theorem dX4_isRow_5 : decode cX4_isRow 5 = .ok (.aload_n 0, 1) := by decide +kernel
theorem dX4_isRow_6 : decode cX4_isRow 6 = .ok (.getfield 9, 3) := by decide +kernel
theorem dX4_isRow_9 : decode cX4_isRow 9 = .ok (.if_icmp .ge 7, 3) := by decide +kernel
theorem dX4_isRow_12 : decode cX4_isRow 12 = .ok (.iconst 1, 1) := by decide +kernel
theorem dX4_isRow_13 : decode cX4_isRow 13 = .ok (.goto 4, 3) := by decide +kernel
theorem dX4_isRow_16 : decode cX4_isRow 16 = .ok (.iconst 0, 1) := by decide +kernel
theorem dX4_isRow_17 : decode cX4_isRow 17 = .ok (.ireturn, 1) := by decide +kernel
theorem dX4_get_0 : decode cX4_get 0 = .ok (.iload_n 1, 1) := by decide +kernel
theorem dX4_get_1 : decode cX4_get 1 = .ok (.aload_n 0, 1) := by decide +kernel
theorem dX4_get_2 : decode cX4_get 2 = .ok (.getfield 18, 3) := by decide +kernel
theorem dX4_get_5 : decode cX4_get 5 = .ok (.imul, 1) := by decide +kernel
theorem dX4_get_6 : decode cX4_get 6 = .ok (.iload_n 2, 1) := by decide +kernel
theorem dX4_get_7 : decode cX4_get 7 = .ok (.iadd, 1) := by decide +kernel
theorem dX4_get_8 : decode cX4_get 8 = .ok (.istore_n 3, 1) := by decide +kernel
theorem dX4_get_9 : decode cX4_get 9 = .ok (.iload_n 3, 1) := by decide +kernel
theorem dX4_get_10 : decode cX4_get 10 = .ok (.ifCond .lt 21, 3) := by decide +kernel
theorem dX4_get_13 : decode cX4_get 13 = .ok (.iload_n 3, 1) := by decide +kernel
theorem dX4_get_14 : decode cX4_get 14 = .ok (.aload_n 0, 1) := by decide +kernel
theorem dX4_get_15 : decode cX4_get 15 = .ok (.getfield 27, 3) := by decide +kernel
theorem dX4_get_18 : decode cX4_get 18 = .ok (.arraylength, 1) := by decide +kernel
theorem dX4_get_19 : decode cX4_get 19 = .ok (.if_icmp .ge 12, 3) := by decide +kernel
theorem dX4_get_22 : decode cX4_get 22 = .ok (.aload_n 0, 1) := by decide +kernel
theorem dX4_get_23 : decode cX4_get 23 = .ok (.getfield 27, 3) := by decide +kernel
theorem dX4_get_26 : decode cX4_get 26 = .ok (.iload_n 3, 1) := by decide +kernel
theorem dX4_get_27 : decode cX4_get 27 = .ok (.iaload, 1) := by decide +kernel
theorem dX4_get_28 : decode cX4_get 28 = .ok (.goto 4, 3) := by decide +kernel
theorem dX4_get_31 : decode cX4_get 31 = .ok (.iconst 0, 1) := by decide +kernel
theorem dX4_get_32 : decode cX4_get 32 = .ok (.ireturn, 1) := by decide +kernel
theorem dX4_put_0 : decode cX4_put 0 = .ok (.iload_n 1, 1) := by decide +kernel
theorem dX4_put_1 : decode cX4_put 1 = .ok (.aload_n 0, 1) := by decide +kernel
theorem dX4_put_2 : decode cX4_put 2 = .ok (.getfield 18, 3) := by decide +kernel
theorem dX4_put_5 : decode cX4_put 5 = .ok (.imul, 1) := by decide +kernel
theorem dX4_put_6 : decode cX4_put 6 = .ok (.iload_n 2, 1) := by decide +kernel
theorem dX4_put_7 : decode cX4_put 7 = .ok (.iadd, 1) := by decide +kernel
theorem dX4_put_8 : decode cX4_put 8 = .ok (.istore 4, 2) := by decide +kernel
theorem dX4_put_10 : decode cX4_put 10 = .ok (.iload 4, 2) := by decide +kernel
theorem dX4_put_12 : decode cX4_put 12 = .ok (.ifCond .lt 21, 3) := by decide +kernel
theorem dX4_put_15 : decode cX4_put 15 = .ok (.iload 4, 2) := by decide +kernel
theorem dX4_put_17 : decode cX4_put 17 = .ok (.aload_n 0, 1) := by decide +kernel
theorem dX4_put_18 : decode cX4_put 18 = .ok (.getfield 27, 3) := by decide +kernel
theorem dX4_put_21 : decode cX4_put 21 = .ok (.arraylength, 1) := by decide +kernel
theorem dX4_put_22 : decode cX4_put 22 = .ok (.if_icmp .ge 11, 3) := by decide +kernel
theorem dX4_put_25 : decode cX4_put 25 = .ok (.aload_n 0, 1) := by decide +kernel
theorem dX4_put_26 : decode cX4_put 26 = .ok (.getfield 27, 3) := by decide +kernel
theorem dX4_put_29 : decode cX4_put 29 = .ok (.iload 4, 2) := by decide +kernel
theorem dX4_put_31 : decode cX4_put 31 = .ok (.iload_n 3, 1) := by decide +kernel
theorem dX4_put_32 : decode cX4_put 32 = .ok (.iastore, 1) := by decide +kernel
theorem dX4_put_33 : decode cX4_put 33 = .ok (.return_, 1) := by decide +kernel
theorem dX4_addRow_0 : decode cX4_addRow 0 = .ok (.aload_n 0, 1) := by decide +kernel
theorem dX4_addRow_1 : decode cX4_addRow 1 = .ok (.getfield 9, 3) := by decide +kernel
theorem dX4_addRow_4 : decode cX4_addRow 4 = .ok (.aload_n 0, 1) := by decide +kernel
theorem dX4_addRow_5 : decode cX4_addRow 5 = .ok (.getfield 15, 3) := by decide +kernel
theorem dX4_addRow_8 : decode cX4_addRow 8 = .ok (.if_icmp .lt 5, 3) := by decide +kernel
theorem dX4_addRow_11 : decode cX4_addRow 11 = .ok (.iconst (-1), 1) := by decide +kernel
theorem dX4_addRow_12 : decode cX4_addRow 12 = .ok (.ireturn, 1) := by decide +kernel
theorem dX4_addRow_13 : decode cX4_addRow 13 = .ok (.aload_n 0, 1) := by decide +kernel
theorem dX4_addRow_14 : decode cX4_addRow 14 = .ok (.getfield 9, 3) := by decide +kernel
theorem dX4_addRow_17 : decode cX4_addRow 17 = .ok (.istore_n 1, 1) := by decide +kernel
theorem dX4_addRow_18 : decode cX4_addRow 18 = .ok (.iload_n 1, 1) := by decide +kernel
theorem dX4_addRow_19 : decode cX4_addRow 19 = .ok (.aload_n 0, 1) := by decide +kernel
theorem dX4_addRow_20 : decode cX4_addRow 20 = .ok (.getfield 18, 3) := by decide +kernel
theorem dX4_addRow_23 : decode cX4_addRow 23 = .ok (.imul, 1) := by decide +kernel
theorem dX4_addRow_24 : decode cX4_addRow 24 = .ok (.istore_n 2, 1) := by decide +kernel
theorem dX4_addRow_25 : decode cX4_addRow 25 = .ok (.iload_n 2, 1) := by decide +kernel
theorem dX4_addRow_26 : decode cX4_addRow 26 = .ok (.istore_n 3, 1) := by decide +kernel
theorem dX4_addRow_27 : decode cX4_addRow 27 = .ok (.iload_n 3, 1) := by decide +kernel
theorem dX4_addRow_28 : decode cX4_addRow 28 = .ok (.ifCond .lt 35, 3) := by decide +kernel
theorem dX4_addRow_31 : decode cX4_addRow 31 = .ok (.iload_n 3, 1) := by decide +kernel
theorem dX4_addRow_32 : decode cX4_addRow 32 = .ok (.iload_n 2, 1) := by decide +kernel
theorem dX4_addRow_33 : decode cX4_addRow 33 = .ok (.aload_n 0, 1) := by decide +kernel
theorem dX4_addRow_34 : decode cX4_addRow 34 = .ok (.getfield 18, 3) := by decide +kernel
theorem dX4_addRow_37 : decode cX4_addRow 37 = .ok (.iadd, 1) := by decide +kernel
theorem dX4_addRow_38 : decode cX4_addRow 38 = .ok (.if_icmp .ge 25, 3) := by decide +kernel
theorem dX4_addRow_41 : decode cX4_addRow 41 = .ok (.iload_n 3, 1) := by decide +kernel
theorem dX4_addRow_42 : decode cX4_addRow 42 = .ok (.aload_n 0, 1) := by decide +kernel
theorem dX4_addRow_43 : decode cX4_addRow 43 = .ok (.getfield 27, 3) := by decide +kernel
theorem dX4_addRow_46 : decode cX4_addRow 46 = .ok (.arraylength, 1) := by decide +kernel
theorem dX4_addRow_47 : decode cX4_addRow 47 = .ok (.if_icmp .ge 16, 3) := by decide +kernel
theorem dX4_addRow_50 : decode cX4_addRow 50 = .ok (.aload_n 0, 1) := by decide +kernel
theorem dX4_addRow_51 : decode cX4_addRow 51 = .ok (.getfield 27, 3) := by decide +kernel
theorem dX4_addRow_54 : decode cX4_addRow 54 = .ok (.iload_n 3, 1) := by decide +kernel
theorem dX4_addRow_55 : decode cX4_addRow 55 = .ok (.iconst 0, 1) := by decide +kernel
theorem dX4_addRow_56 : decode cX4_addRow 56 = .ok (.iastore, 1) := by decide +kernel
theorem dX4_addRow_57 : decode cX4_addRow 57 = .ok (.iinc 3 1, 3) := by decide +kernel
theorem dX4_addRow_60 : decode cX4_addRow 60 = .ok (.goto (-33), 3) := by decide +kernel
theorem dX4_addRow_63 : decode cX4_addRow 63 = .ok (.aload_n 0, 1) := by decide +kernel
theorem dX4_addRow_64 : decode cX4_addRow 64 = .ok (.dup, 1) := by decide +kernel
theorem dX4_addRow_65 : decode cX4_addRow 65 = .ok (.getfield 9, 3) := by decide +kernel
theorem dX4_addRow_68 : decode cX4_addRow 68 = .ok (.iconst 1, 1) := by decide +kernel
theorem dX4_addRow_69 : decode cX4_addRow 69 = .ok (.iadd, 1) := by decide +kernel
theorem dX4_addRow_70 : decode cX4_addRow 70 = .ok (.putfield 9, 3) := by decide +kernel
theorem dX4_addRow_73 : decode cX4_addRow 73 = .ok (.iload_n 1, 1) := by decide +kernel
theorem dX4_addRow_74 : decode cX4_addRow 74 = .ok (.ireturn, 1) := by decide +kernel
theorem dX4_clear_0 : decode cX4_clear 0 = .ok (.aload_n 0, 1) := by decide +kernel
theorem dX4_clear_1 : decode cX4_clear 1 = .ok (.iconst 0, 1) := by decide +kernel
theorem dX4_clear_2 : decode cX4_clear 2 = .ok (.putfield 9, 3) := by decide +kernel
theorem dX4_clear_5 : decode cX4_clear 5 = .ok (.return_, 1) := by decide +kernel
theorem dX4_copyFrom_0 : decode cX4_copyFrom 0 = .ok (.aload_n 0, 1) := by decide +kernel
theorem dX4_copyFrom_1 : decode cX4_copyFrom 1 = .ok (.aload_n 1, 1) := by decide +kernel
theorem dX4_copyFrom_2 : decode cX4_copyFrom 2 = .ok (.getfield 9, 3) := by decide +kernel
theorem dX4_copyFrom_5 : decode cX4_copyFrom 5 = .ok (.putfield 9, 3) := by decide +kernel
theorem dX4_copyFrom_8 : decode cX4_copyFrom 8 = .ok (.aload_n 1, 1) := by decide +kernel
theorem dX4_copyFrom_9 : decode cX4_copyFrom 9 = .ok (.getfield 27, 3) := by decide +kernel
theorem dX4_copyFrom_12 : decode cX4_copyFrom 12 = .ok (.iconst 0, 1) := by decide +kernel
theorem dX4_copyFrom_13 : decode cX4_copyFrom 13 = .ok (.aload_n 0, 1) := by decide +kernel
theorem dX4_copyFrom_14 : decode cX4_copyFrom 14 = .ok (.getfield 27, 3) := by decide +kernel
theorem dX4_copyFrom_17 : decode cX4_copyFrom 17 = .ok (.iconst 0, 1) := by decide +kernel
theorem dX4_copyFrom_18 : decode cX4_copyFrom 18 = .ok (.aload_n 0, 1) := by decide +kernel
theorem dX4_copyFrom_19 : decode cX4_copyFrom 19 = .ok (.getfield 27, 3) := by decide +kernel
theorem dX4_copyFrom_22 : decode cX4_copyFrom 22 = .ok (.arraylength, 1) := by decide +kernel
theorem dX4_copyFrom_23 : decode cX4_copyFrom 23 = .ok (.aload_n 1, 1) := by decide +kernel
theorem dX4_copyFrom_24 : decode cX4_copyFrom 24 = .ok (.getfield 27, 3) := by decide +kernel
theorem dX4_copyFrom_27 : decode cX4_copyFrom 27 = .ok (.arraylength, 1) := by decide +kernel
theorem dX4_copyFrom_28 : decode cX4_copyFrom 28 = .ok (.invokestatic 31, 3) := by decide +kernel
theorem dX4_copyFrom_31 : decode cX4_copyFrom 31 = .ok (.invokestatic 34, 3) := by decide +kernel
theorem dX4_copyFrom_34 : decode cX4_copyFrom 34 = .ok (.return_, 1) := by decide +kernel
theorem dX5_init_0 : decode cX5_init 0 = .ok (.aload_n 0, 1) := by decide +kernel
theorem dX5_init_1 : decode cX5_init 1 = .ok (.invokespecial 1, 3) := by decide +kernel
theorem dX5_init_4 : decode cX5_init 4 = .ok (.aload_n 0, 1) := by decide +kernel
theorem dX5_init_5 : decode cX5_init 5 = .ok (.new 7, 3) := by decide +kernel
theorem dX5_init_8 : decode cX5_init 8 = .ok (.dup, 1) := by decide +kernel
theorem dX5_init_9 : decode cX5_init 9 = .ok (.invokespecial 9, 3) := by decide +kernel
theorem dX5_init_12 : decode cX5_init 12 = .ok (.putfield 10, 3) := by decide +kernel
theorem dX5_init_15 : decode cX5_init 15 = .ok (.aload_n 0, 1) := by decide +kernel
theorem dX5_init_16 : decode cX5_init 16 = .ok (.new 7, 3) := by decide +kernel
theorem dX5_init_19 : decode cX5_init 19 = .ok (.dup, 1) := by decide +kernel
theorem dX5_init_20 : decode cX5_init 20 = .ok (.invokespecial 9, 3) := by decide +kernel
theorem dX5_init_23 : decode cX5_init 23 = .ok (.putfield 16, 3) := by decide +kernel
theorem dX5_init_26 : decode cX5_init 26 = .ok (.aload_n 0, 1) := by decide +kernel
theorem dX5_init_27 : decode cX5_init 27 = .ok (.new 19, 3) := by decide +kernel
theorem dX5_init_30 : decode cX5_init 30 = .ok (.dup, 1) := by decide +kernel
theorem dX5_init_31 : decode cX5_init 31 = .ok (.invokespecial 21, 3) := by decide +kernel
theorem dX5_init_34 : decode cX5_init 34 = .ok (.putfield 22, 3) := by decide +kernel
theorem dX5_init_37 : decode cX5_init 37 = .ok (.aload_n 0, 1) := by decide +kernel
theorem dX5_init_38 : decode cX5_init 38 = .ok (.new 26, 3) := by decide +kernel
theorem dX5_init_41 : decode cX5_init 41 = .ok (.dup, 1) := by decide +kernel
theorem dX5_init_42 : decode cX5_init 42 = .ok (.invokespecial 28, 3) := by decide +kernel
theorem dX5_init_45 : decode cX5_init 45 = .ok (.putfield 29, 3) := by decide +kernel
theorem dX5_init_48 : decode cX5_init 48 = .ok (.aload_n 0, 1) := by decide +kernel
theorem dX5_init_49 : decode cX5_init 49 = .ok (.new 33, 3) := by decide +kernel
theorem dX5_init_52 : decode cX5_init 52 = .ok (.dup, 1) := by decide +kernel
theorem dX5_init_53 : decode cX5_init 53 = .ok (.invokespecial 35, 3) := by decide +kernel
