/-! decode rows -/
theorem dX6_tooManyCopies_46 : decode cX6_tooManyCopies 46 = .ok (.getfield 9, 3) := by decide +kernel
theorem dX6_tooManyCopies_49 : decode cX6_tooManyCopies 49 = .ok (.iconst 4, 1) := by decide +kernel
theorem dX6_tooManyCopies_50 : decode cX6_tooManyCopies 50 = .ok (.iaload, 1) := by decide +kernel
theorem dX6_tooManyCopies_51 : decode cX6_tooManyCopies 51 = .ok (.if_icmp .ge 72, 3) := by decide +kernel
theorem dX6_tooManyCopies_54 : decode cX6_tooManyCopies 54 = .ok (.aload_n 0, 1) := by decide +kernel
theorem dX6_tooManyCopies_55 : decode cX6_tooManyCopies 55 = .ok (.iload_n 3, 1) := by decide +kernel
theorem dX6_tooManyCopies_56 : decode cX6_tooManyCopies 56 = .ok (.iconst 3, 1) := by decide +kernel
theorem dX6_tooManyCopies_57 : decode cX6_tooManyCopies 57 = .ok (.invokevirtual 89, 3) := by decide +kernel
theorem dX6_tooManyCopies_60 : decode cX6_tooManyCopies 60 = .ok (.istore 4, 2) := by decide +kernel
theorem dX6_tooManyCopies_62 : decode cX6_tooManyCopies 62 = .ok (.aload_n 0, 1) := by decide +kernel
theorem dX6_tooManyCopies_63 : decode cX6_tooManyCopies 63 = .ok (.iload_n 3, 1) := by decide +kernel
theorem dX6_tooManyCopies_64 : decode cX6_tooManyCopies 64 = .ok (.invokevirtual 145, 3) := by decide +kernel
theorem dX6_tooManyCopies_67 : decode cX6_tooManyCopies 67 = .ok (.ifCond .eq 50, 3) := by decide +kernel
theorem dX6_tooManyCopies_70 : decode cX6_tooManyCopies 70 = .ok (.iload 4, 2) := by decide +kernel
theorem dX6_tooManyCopies_72 : decode cX6_tooManyCopies 72 = .ok (.aload_n 0, 1) := by decide +kernel
theorem dX6_tooManyCopies_73 : decode cX6_tooManyCopies 73 = .ok (.getfield 148, 3) := by decide +kernel
theorem dX6_tooManyCopies_76 : decode cX6_tooManyCopies 76 = .ok (.if_icmp .le 41, 3) := by decide +kernel
theorem dX6_tooManyCopies_79 : decode cX6_tooManyCopies 79 = .ok (.iload 4, 2) := by decide +kernel
theorem dX6_tooManyCopies_81 : decode cX6_tooManyCopies 81 = .ok (.iload_n 1, 1) := by decide +kernel
theorem dX6_tooManyCopies_82 : decode cX6_tooManyCopies 82 = .ok (.if_icmp .ge 35, 3) := by decide +kernel
theorem dX6_tooManyCopies_85 : decode cX6_tooManyCopies 85 = .ok (.iload_n 2, 1) := by decide +kernel
theorem dX6_tooManyCopies_86 : decode cX6_tooManyCopies 86 = .ok (.iconst (-1), 1) := by decide +kernel
theorem dX6_tooManyCopies_87 : decode cX6_tooManyCopies 87 = .ok (.if_icmp .eq 9, 3) := by decide +kernel
theorem dX6_tooManyCopies_90 : decode cX6_tooManyCopies 90 = .ok (.iload 4, 2) := by decide +kernel
theorem dX6_tooManyCopies_92 : decode cX6_tooManyCopies 92 = .ok (.iload_n 2, 1) := by decide +kernel
theorem dX6_tooManyCopies_93 : decode cX6_tooManyCopies 93 = .ok (.if_icmp .ge 24, 3) := by decide +kernel
theorem dX6_tooManyCopies_96 : decode cX6_tooManyCopies 96 = .ok (.aload_n 0, 1) := by decide +kernel
theorem dX6_tooManyCopies_97 : decode cX6_tooManyCopies 97 = .ok (.iload 4, 2) := by decide +kernel
theorem dX6_tooManyCopies_99 : decode cX6_tooManyCopies 99 = .ok (.invokevirtual 160, 3) := by decide +kernel
theorem dX6_tooManyCopies_102 : decode cX6_tooManyCopies 102 = .ok (.aload_n 0, 1) := by decide +kernel
theorem dX6_tooManyCopies_103 : decode cX6_tooManyCopies 103 = .ok (.aload_n 0, 1) := by decide +kernel
theorem dX6_tooManyCopies_104 : decode cX6_tooManyCopies 104 = .ok (.getfield 157, 3) := by decide +kernel
theorem dX6_tooManyCopies_107 : decode cX6_tooManyCopies 107 = .ok (.iconst 3, 1) := by decide +kernel
theorem dX6_tooManyCopies_108 : decode cX6_tooManyCopies 108 = .ok (.invokevirtual 81, 3) := by decide +kernel
theorem dX6_tooManyCopies_111 : decode cX6_tooManyCopies 111 = .ok (.if_icmp .le 6, 3) := by decide +kernel
theorem dX6_tooManyCopies_114 : decode cX6_tooManyCopies 114 = .ok (.iload 4, 2) := by decide +kernel
theorem dX6_tooManyCopies_116 : decode cX6_tooManyCopies 116 = .ok (.istore_n 2, 1) := by decide +kernel
theorem dX6_tooManyCopies_117 : decode cX6_tooManyCopies 117 = .ok (.iinc 3 1, 3) := by decide +kernel
theorem dX6_tooManyCopies_120 : decode cX6_tooManyCopies 120 = .ok (.goto (-76), 3) := by decide +kernel
theorem dX6_tooManyCopies_123 : decode cX6_tooManyCopies 123 = .ok (.iload_n 2, 1) := by decide +kernel
theorem dX6_tooManyCopies_124 : decode cX6_tooManyCopies 124 = .ok (.ireturn, 1) := by decide +kernel
theorem dX6_meetsAtExit_0 : decode cX6_meetsAtExit 0 = .ok (.iconst 0, 1) := by decide +kernel
theorem dX6_meetsAtExit_1 : decode cX6_meetsAtExit 1 = .ok (.istore_n 1, 1) := by decide +kernel
theorem dX6_meetsAtExit_2 : decode cX6_meetsAtExit 2 = .ok (.iload_n 1, 1) := by decide +kernel
theorem dX6_meetsAtExit_3 : decode cX6_meetsAtExit 3 = .ok (.aload_n 0, 1) := by decide +kernel
theorem dX6_meetsAtExit_4 : decode cX6_meetsAtExit 4 = .ok (.getfield 9, 3) := by decide +kernel
theorem dX6_meetsAtExit_7 : decode cX6_meetsAtExit 7 = .ok (.iconst 4, 1) := by decide +kernel
theorem dX6_meetsAtExit_8 : decode cX6_meetsAtExit 8 = .ok (.iaload, 1) := by decide +kernel
theorem dX6_meetsAtExit_9 : decode cX6_meetsAtExit 9 = .ok (.if_icmp .ge 73, 3) := by decide +kernel
theorem dX6_meetsAtExit_12 : decode cX6_meetsAtExit 12 = .ok (.aload_n 0, 1) := by decide +kernel
theorem dX6_meetsAtExit_13 : decode cX6_meetsAtExit 13 = .ok (.iload_n 1, 1) := by decide +kernel
theorem dX6_meetsAtExit_14 : decode cX6_meetsAtExit 14 = .ok (.invokevirtual 151, 3) := by decide +kernel
theorem dX6_meetsAtExit_17 : decode cX6_meetsAtExit 17 = .ok (.aload_n 0, 1) := by decide +kernel
theorem dX6_meetsAtExit_18 : decode cX6_meetsAtExit 18 = .ok (.getfield 139, 3) := by decide +kernel
theorem dX6_meetsAtExit_21 : decode cX6_meetsAtExit 21 = .ok (.isub, 1) := by decide +kernel
theorem dX6_meetsAtExit_22 : decode cX6_meetsAtExit 22 = .ok (.istore_n 2, 1) := by decide +kernel
theorem dX6_meetsAtExit_23 : decode cX6_meetsAtExit 23 = .ok (.aload_n 0, 1) := by decide +kernel
theorem dX6_meetsAtExit_24 : decode cX6_meetsAtExit 24 = .ok (.iload_n 1, 1) := by decide +kernel
theorem dX6_meetsAtExit_25 : decode cX6_meetsAtExit 25 = .ok (.invokevirtual 145, 3) := by decide +kernel
theorem dX6_meetsAtExit_28 : decode cX6_meetsAtExit 28 = .ok (.ifCond .eq 48, 3) := by decide +kernel
theorem dX6_meetsAtExit_31 : decode cX6_meetsAtExit 31 = .ok (.aload_n 0, 1) := by decide +kernel
theorem dX6_meetsAtExit_32 : decode cX6_meetsAtExit 32 = .ok (.aload_n 0, 1) := by decide +kernel
theorem dX6_meetsAtExit_33 : decode cX6_meetsAtExit 33 = .ok (.iload_n 1, 1) := by decide +kernel
theorem dX6_meetsAtExit_34 : decode cX6_meetsAtExit 34 = .ok (.iconst 0, 1) := by decide +kernel
theorem dX6_meetsAtExit_35 : decode cX6_meetsAtExit 35 = .ok (.invokevirtual 89, 3) := by decide +kernel
theorem dX6_meetsAtExit_38 : decode cX6_meetsAtExit 38 = .ok (.iconst 2, 1) := by decide +kernel
theorem dX6_meetsAtExit_39 : decode cX6_meetsAtExit 39 = .ok (.invokevirtual 95, 3) := by decide +kernel
theorem dX6_meetsAtExit_42 : decode cX6_meetsAtExit 42 = .ok (.aload_n 0, 1) := by decide +kernel
theorem dX6_meetsAtExit_43 : decode cX6_meetsAtExit 43 = .ok (.aload_n 0, 1) := by decide +kernel
theorem dX6_meetsAtExit_44 : decode cX6_meetsAtExit 44 = .ok (.getfield 142, 3) := by decide +kernel
theorem dX6_meetsAtExit_47 : decode cX6_meetsAtExit 47 = .ok (.iconst 2, 1) := by decide +kernel
theorem dX6_meetsAtExit_48 : decode cX6_meetsAtExit 48 = .ok (.invokevirtual 95, 3) := by decide +kernel
theorem dX6_meetsAtExit_51 : decode cX6_meetsAtExit 51 = .ok (.if_icmp .ne 25, 3) := by decide +kernel
theorem dX6_meetsAtExit_54 : decode cX6_meetsAtExit 54 = .ok (.iload_n 2, 1) := by decide +kernel
theorem dX6_meetsAtExit_55 : decode cX6_meetsAtExit 55 = .ok (.ifCond .ge 8, 3) := by decide +kernel
theorem dX6_meetsAtExit_58 : decode cX6_meetsAtExit 58 = .ok (.iload_n 2, 1) := by decide +kernel
theorem dX6_meetsAtExit_59 : decode cX6_meetsAtExit 59 = .ok (.ineg, 1) := by decide +kernel
theorem dX6_meetsAtExit_60 : decode cX6_meetsAtExit 60 = .ok (.goto 4, 3) := by decide +kernel
theorem dX6_meetsAtExit_63 : decode cX6_meetsAtExit 63 = .ok (.iload_n 2, 1) := by decide +kernel
theorem dX6_meetsAtExit_64 : decode cX6_meetsAtExit 64 = .ok (.aload_n 0, 1) := by decide +kernel
theorem dX6_meetsAtExit_65 : decode cX6_meetsAtExit 65 = .ok (.getfield 9, 3) := by decide +kernel
theorem dX6_meetsAtExit_68 : decode cX6_meetsAtExit 68 = .ok (.bipush 8, 2) := by decide +kernel
theorem dX6_meetsAtExit_70 : decode cX6_meetsAtExit 70 = .ok (.iaload, 1) := by decide +kernel
theorem dX6_meetsAtExit_71 : decode cX6_meetsAtExit 71 = .ok (.if_icmp .ge 5, 3) := by decide +kernel
theorem dX6_meetsAtExit_74 : decode cX6_meetsAtExit 74 = .ok (.iload_n 1, 1) := by decide +kernel
theorem dX6_meetsAtExit_75 : decode cX6_meetsAtExit 75 = .ok (.ireturn, 1) := by decide +kernel
theorem dX6_meetsAtExit_76 : decode cX6_meetsAtExit 76 = .ok (.iinc 1 1, 3) := by decide +kernel
theorem dX6_meetsAtExit_79 : decode cX6_meetsAtExit 79 = .ok (.goto (-77), 3) := by decide +kernel
theorem dX6_meetsAtExit_82 : decode cX6_meetsAtExit 82 = .ok (.iconst (-1), 1) := by decide +kernel
theorem dX6_meetsAtExit_83 : decode cX6_meetsAtExit 83 = .ok (.ireturn, 1) := by decide +kernel
theorem dX6_cleanedAt_0 : decode cX6_cleanedAt 0 = .ok (.iconst 1, 1) := by decide +kernel
theorem dX6_cleanedAt_1 : decode cX6_cleanedAt 1 = .ok (.istore_n 2, 1) := by decide +kernel
theorem dX6_cleanedAt_2 : decode cX6_cleanedAt 2 = .ok (.iconst 0, 1) := by decide +kernel
theorem dX6_cleanedAt_3 : decode cX6_cleanedAt 3 = .ok (.istore_n 3, 1) := by decide +kernel
theorem dX6_cleanedAt_4 : decode cX6_cleanedAt 4 = .ok (.iload_n 3, 1) := by decide +kernel
theorem dX6_cleanedAt_5 : decode cX6_cleanedAt 5 = .ok (.aload_n 0, 1) := by decide +kernel
theorem dX6_cleanedAt_6 : decode cX6_cleanedAt 6 = .ok (.getfield 9, 3) := by decide +kernel
theorem dX6_cleanedAt_9 : decode cX6_cleanedAt 9 = .ok (.iconst 4, 1) := by decide +kernel
theorem dX6_cleanedAt_10 : decode cX6_cleanedAt 10 = .ok (.iaload, 1) := by decide +kernel
theorem dX6_cleanedAt_11 : decode cX6_cleanedAt 11 = .ok (.if_icmp .ge 50, 3) := by decide +kernel
theorem dX6_cleanedAt_14 : decode cX6_cleanedAt 14 = .ok (.iload_n 2, 1) := by decide +kernel
theorem dX6_cleanedAt_15 : decode cX6_cleanedAt 15 = .ok (.aload_n 0, 1) := by decide +kernel
theorem dX6_cleanedAt_16 : decode cX6_cleanedAt 16 = .ok (.iload_n 3, 1) := by decide +kernel
theorem dX6_cleanedAt_17 : decode cX6_cleanedAt 17 = .ok (.invokevirtual 145, 3) := by decide +kernel
theorem dX6_cleanedAt_20 : decode cX6_cleanedAt 20 = .ok (.ifCond .eq 32, 3) := by decide +kernel
theorem dX6_cleanedAt_23 : decode cX6_cleanedAt 23 = .ok (.iload_n 1, 1) := by decide +kernel
theorem dX6_cleanedAt_24 : decode cX6_cleanedAt 24 = .ok (.aload_n 0, 1) := by decide +kernel
theorem dX6_cleanedAt_25 : decode cX6_cleanedAt 25 = .ok (.iload_n 3, 1) := by decide +kernel
theorem dX6_cleanedAt_26 : decode cX6_cleanedAt 26 = .ok (.invokevirtual 151, 3) := by decide +kernel
theorem dX6_cleanedAt_29 : decode cX6_cleanedAt 29 = .ok (.aload_n 0, 1) := by decide +kernel
theorem dX6_cleanedAt_30 : decode cX6_cleanedAt 30 = .ok (.iload_n 3, 1) := by decide +kernel
theorem dX6_cleanedAt_31 : decode cX6_cleanedAt 31 = .ok (.invokevirtual 151, 3) := by decide +kernel
theorem dX6_cleanedAt_34 : decode cX6_cleanedAt 34 = .ok (.aload_n 0, 1) := by decide +kernel
theorem dX6_cleanedAt_35 : decode cX6_cleanedAt 35 = .ok (.iload_n 3, 1) := by decide +kernel
theorem dX6_cleanedAt_36 : decode cX6_cleanedAt 36 = .ok (.invokevirtual 154, 3) := by decide +kernel
theorem dX6_cleanedAt_39 : decode cX6_cleanedAt 39 = .ok (.iadd, 1) := by decide +kernel
theorem dX6_cleanedAt_40 : decode cX6_cleanedAt 40 = .ok (.iconst 1, 1) := by decide +kernel
theorem dX6_cleanedAt_41 : decode cX6_cleanedAt 41 = .ok (.isub, 1) := by decide +kernel
theorem dX6_cleanedAt_42 : decode cX6_cleanedAt 42 = .ok (.invokestatic 64, 3) := by decide +kernel
theorem dX6_cleanedAt_45 : decode cX6_cleanedAt 45 = .ok (.ifCond .eq 7, 3) := by decide +kernel
theorem dX6_cleanedAt_48 : decode cX6_cleanedAt 48 = .ok (.iconst 1, 1) := by decide +kernel
theorem dX6_cleanedAt_49 : decode cX6_cleanedAt 49 = .ok (.goto 4, 3) := by decide +kernel
theorem dX6_cleanedAt_52 : decode cX6_cleanedAt 52 = .ok (.iconst 0, 1) := by decide +kernel
theorem dX6_cleanedAt_53 : decode cX6_cleanedAt 53 = .ok (.iadd, 1) := by decide +kernel
theorem dX6_cleanedAt_54 : decode cX6_cleanedAt 54 = .ok (.istore_n 2, 1) := by decide +kernel
theorem dX6_cleanedAt_55 : decode cX6_cleanedAt 55 = .ok (.iinc 3 1, 3) := by decide +kernel
theorem dX6_cleanedAt_58 : decode cX6_cleanedAt 58 = .ok (.goto (-54), 3) := by decide +kernel
theorem dX6_cleanedAt_61 : decode cX6_cleanedAt 61 = .ok (.iload_n 2, 1) := by decide +kernel
theorem dX6_cleanedAt_62 : decode cX6_cleanedAt 62 = .ok (.ireturn, 1) := by decide +kernel
theorem dX6_tooManyCleaned_0 : decode cX6_tooManyCleaned 0 = .ok (.aload_n 0, 1) := by decide +kernel
theorem dX6_tooManyCleaned_1 : decode cX6_tooManyCleaned 1 = .ok (.aload_n 0, 1) := by decide +kernel
theorem dX6_tooManyCleaned_2 : decode cX6_tooManyCleaned 2 = .ok (.getfield 142, 3) := by decide +kernel
theorem dX6_tooManyCleaned_5 : decode cX6_tooManyCleaned 5 = .ok (.iconst 1, 1) := by decide +kernel
theorem dX6_tooManyCleaned_6 : decode cX6_tooManyCleaned 6 = .ok (.invokevirtual 95, 3) := by decide +kernel
theorem dX6_tooManyCleaned_9 : decode cX6_tooManyCleaned 9 = .ok (.istore_n 1, 1) := by decide +kernel
theorem dX6_tooManyCleaned_10 : decode cX6_tooManyCleaned 10 = .ok (.iload_n 1, 1) := by decide +kernel
theorem dX6_tooManyCleaned_11 : decode cX6_tooManyCleaned 11 = .ok (.ifCond .ne 5, 3) := by decide +kernel
theorem dX6_tooManyCleaned_14 : decode cX6_tooManyCleaned 14 = .ok (.iconst (-1), 1) := by decide +kernel
theorem dX6_tooManyCleaned_15 : decode cX6_tooManyCleaned 15 = .ok (.ireturn, 1) := by decide +kernel
theorem dX6_tooManyCleaned_16 : decode cX6_tooManyCleaned 16 = .ok (.aload_n 0, 1) := by decide +kernel
theorem dX6_tooManyCleaned_17 : decode cX6_tooManyCleaned 17 = .ok (.aload_n 0, 1) := by decide +kernel
theorem dX6_tooManyCleaned_18 : decode cX6_tooManyCleaned 18 = .ok (.getfield 139, 3) := by decide +kernel
theorem dX6_tooManyCleaned_21 : decode cX6_tooManyCleaned 21 = .ok (.invokevirtual 163, 3) := by decide +kernel
theorem dX6_tooManyCleaned_24 : decode cX6_tooManyCleaned 24 = .ok (.aload_n 0, 1) := by decide +kernel
theorem dX6_tooManyCleaned_25 : decode cX6_tooManyCleaned 25 = .ok (.getfield 9, 3) := by decide +kernel
theorem dX6_tooManyCleaned_28 : decode cX6_tooManyCleaned 28 = .ok (.bipush 9, 2) := by decide +kernel
theorem dX6_tooManyCleaned_30 : decode cX6_tooManyCleaned 30 = .ok (.iaload, 1) := by decide +kernel
theorem dX6_tooManyCleaned_31 : decode cX6_tooManyCleaned 31 = .ok (.if_icmp .le 10, 3) := by decide +kernel
theorem dX6_tooManyCleaned_34 : decode cX6_tooManyCleaned 34 = .ok (.aload_n 0, 1) := by decide +kernel
theorem dX6_tooManyCleaned_35 : decode cX6_tooManyCleaned 35 = .ok (.getfield 139, 3) := by decide +kernel
theorem dX6_tooManyCleaned_38 : decode cX6_tooManyCleaned 38 = .ok (.goto 4, 3) := by decide +kernel
theorem dX6_tooManyCleaned_41 : decode cX6_tooManyCleaned 41 = .ok (.iconst (-1), 1) := by decide +kernel
theorem dX6_tooManyCleaned_42 : decode cX6_tooManyCleaned 42 = .ok (.istore_n 2, 1) := by decide +kernel
theorem dX6_tooManyCleaned_43 : decode cX6_tooManyCleaned 43 = .ok (.iconst 0, 1) := by decide +kernel
theorem dX6_tooManyCleaned_44 : decode cX6_tooManyCleaned 44 = .ok (.istore_n 3, 1) := by decide +kernel
theorem dX6_tooManyCleaned_45 : decode cX6_tooManyCleaned 45 = .ok (.iload_n 3, 1) := by decide +kernel
theorem dX6_tooManyCleaned_46 : decode cX6_tooManyCleaned 46 = .ok (.aload_n 0, 1) := by decide +kernel
theorem dX6_tooManyCleaned_47 : decode cX6_tooManyCleaned 47 = .ok (.getfield 9, 3) := by decide +kernel
theorem dX6_tooManyCleaned_50 : decode cX6_tooManyCleaned 50 = .ok (.iconst 4, 1) := by decide +kernel
theorem dX6_tooManyCleaned_51 : decode cX6_tooManyCleaned 51 = .ok (.iaload, 1) := by decide +kernel
theorem dX6_tooManyCleaned_52 : decode cX6_tooManyCleaned 52 = .ok (.if_icmp .ge 74, 3) := by decide +kernel
theorem dX6_tooManyCleaned_55 : decode cX6_tooManyCleaned 55 = .ok (.aload_n 0, 1) := by decide +kernel
theorem dX6_tooManyCleaned_56 : decode cX6_tooManyCleaned 56 = .ok (.iload_n 3, 1) := by decide +kernel
theorem dX6_tooManyCleaned_57 : decode cX6_tooManyCleaned 57 = .ok (.invokevirtual 151, 3) := by decide +kernel
theorem dX6_tooManyCleaned_60 : decode cX6_tooManyCleaned 60 = .ok (.istore 4, 2) := by decide +kernel
theorem dX6_tooManyCleaned_62 : decode cX6_tooManyCleaned 62 = .ok (.aload_n 0, 1) := by decide +kernel
theorem dX6_tooManyCleaned_63 : decode cX6_tooManyCleaned 63 = .ok (.iload_n 3, 1) := by decide +kernel
theorem dX6_tooManyCleaned_64 : decode cX6_tooManyCleaned 64 = .ok (.invokevirtual 145, 3) := by decide +kernel
theorem dX6_tooManyCleaned_67 : decode cX6_tooManyCleaned 67 = .ok (.ifCond .eq 53, 3) := by decide +kernel
theorem dX6_tooManyCleaned_70 : decode cX6_tooManyCleaned 70 = .ok (.iload 4, 2) := by decide +kernel
theorem dX6_tooManyCleaned_72 : decode cX6_tooManyCleaned 72 = .ok (.aload_n 0, 1) := by decide +kernel
theorem dX6_tooManyCleaned_73 : decode cX6_tooManyCleaned 73 = .ok (.getfield 139, 3) := by decide +kernel
theorem dX6_tooManyCleaned_76 : decode cX6_tooManyCleaned 76 = .ok (.if_icmp .le 44, 3) := by decide +kernel
theorem dX6_tooManyCleaned_79 : decode cX6_tooManyCleaned 79 = .ok (.iload 4, 2) := by decide +kernel
theorem dX6_tooManyCleaned_81 : decode cX6_tooManyCleaned 81 = .ok (.aload_n 0, 1) := by decide +kernel
theorem dX6_tooManyCleaned_82 : decode cX6_tooManyCleaned 82 = .ok (.getfield 139, 3) := by decide +kernel
theorem dX6_tooManyCleaned_85 : decode cX6_tooManyCleaned 85 = .ok (.iload_n 1, 1) := by decide +kernel
theorem dX6_tooManyCleaned_86 : decode cX6_tooManyCleaned 86 = .ok (.iadd, 1) := by decide +kernel
theorem dX6_tooManyCleaned_87 : decode cX6_tooManyCleaned 87 = .ok (.if_icmp .ge 33, 3) := by decide +kernel
theorem dX6_tooManyCleaned_90 : decode cX6_tooManyCleaned 90 = .ok (.iload_n 2, 1) := by decide +kernel
theorem dX6_tooManyCleaned_91 : decode cX6_tooManyCleaned 91 = .ok (.iconst (-1), 1) := by decide +kernel
theorem dX6_tooManyCleaned_92 : decode cX6_tooManyCleaned 92 = .ok (.if_icmp .eq 9, 3) := by decide +kernel
theorem dX6_tooManyCleaned_95 : decode cX6_tooManyCleaned 95 = .ok (.iload 4, 2) := by decide +kernel
theorem dX6_tooManyCleaned_97 : decode cX6_tooManyCleaned 97 = .ok (.iload_n 2, 1) := by decide +kernel
theorem dX6_tooManyCleaned_98 : decode cX6_tooManyCleaned 98 = .ok (.if_icmp .ge 22, 3) := by decide +kernel
theorem dX6_tooManyCleaned_101 : decode cX6_tooManyCleaned 101 = .ok (.aload_n 0, 1) := by decide +kernel
theorem dX6_tooManyCleaned_102 : decode cX6_tooManyCleaned 102 = .ok (.iload 4, 2) := by decide +kernel
theorem dX6_tooManyCleaned_104 : decode cX6_tooManyCleaned 104 = .ok (.invokevirtual 163, 3) := by decide +kernel
theorem dX6_tooManyCleaned_107 : decode cX6_tooManyCleaned 107 = .ok (.aload_n 0, 1) := by decide +kernel
theorem dX6_tooManyCleaned_108 : decode cX6_tooManyCleaned 108 = .ok (.getfield 9, 3) := by decide +kernel
theorem dX6_tooManyCleaned_111 : decode cX6_tooManyCleaned 111 = .ok (.bipush 9, 2) := by decide +kernel
theorem dX6_tooManyCleaned_113 : decode cX6_tooManyCleaned 113 = .ok (.iaload, 1) := by decide +kernel
theorem dX6_tooManyCleaned_114 : decode cX6_tooManyCleaned 114 = .ok (.if_icmp .le 6, 3) := by decide +kernel
theorem dX6_tooManyCleaned_117 : decode cX6_tooManyCleaned 117 = .ok (.iload 4, 2) := by decide +kernel
theorem dX6_tooManyCleaned_119 : decode cX6_tooManyCleaned 119 = .ok (.istore_n 2, 1) := by decide +kernel
theorem dX6_tooManyCleaned_120 : decode cX6_tooManyCleaned 120 = .ok (.iinc 3 1, 3) := by decide +kernel
theorem dX6_tooManyCleaned_123 : decode cX6_tooManyCleaned 123 = .ok (.goto (-78), 3) := by decide +kernel
theorem dX6_tooManyCleaned_126 : decode cX6_tooManyCleaned 126 = .ok (.iload_n 2, 1) := by decide +kernel
theorem dX6_tooManyCleaned_127 : decode cX6_tooManyCleaned 127 = .ok (.ireturn, 1) := by decide +kernel
theorem dX6_isClosed_0 : decode cX6_isClosed 0 = .ok (.aload_n 0, 1) := by decide +kernel
theorem dX6_isClosed_1 : decode cX6_isClosed 1 = .ok (.iload_n 1, 1) := by decide +kernel
theorem dX6_isClosed_2 : decode cX6_isClosed 2 = .ok (.iconst 3, 1) := by decide +kernel
theorem dX6_isClosed_3 : decode cX6_isClosed 3 = .ok (.invokevirtual 95, 3) := by decide +kernel
theorem dX6_isClosed_6 : decode cX6_isClosed 6 = .ok (.iconst (-1), 1) := by decide +kernel
theorem dX6_isClosed_7 : decode cX6_isClosed 7 = .ok (.if_icmp .eq 17, 3) := by decide +kernel
theorem dX6_isClosed_10 : decode cX6_isClosed 10 = .ok (.iload_n 2, 1) := by decide +kernel
theorem dX6_isClosed_11 : decode cX6_isClosed 11 = .ok (.aload_n 0, 1) := by decide +kernel
theorem dX6_isClosed_12 : decode cX6_isClosed 12 = .ok (.iload_n 1, 1) := by decide +kernel
theorem dX6_isClosed_13 : decode cX6_isClosed 13 = .ok (.iconst 3, 1) := by decide +kernel
theorem dX6_isClosed_14 : decode cX6_isClosed 14 = .ok (.invokevirtual 95, 3) := by decide +kernel
theorem dX6_isClosed_17 : decode cX6_isClosed 17 = .ok (.if_icmp .lt 7, 3) := by decide +kernel
theorem dX6_isClosed_20 : decode cX6_isClosed 20 = .ok (.iconst 1, 1) := by decide +kernel
theorem dX6_isClosed_21 : decode cX6_isClosed 21 = .ok (.goto 4, 3) := by decide +kernel
theorem dX6_isClosed_24 : decode cX6_isClosed 24 = .ok (.iconst 0, 1) := by decide +kernel
theorem dX6_isClosed_25 : decode cX6_isClosed 25 = .ok (.ireturn, 1) := by decide +kernel
theorem dX6_broken_0 : decode cX6_broken 0 = .ok (.aload_n 0, 1) := by decide +kernel
theorem dX6_broken_1 : decode cX6_broken 1 = .ok (.iload_n 2, 1) := by decide +kernel
theorem dX6_broken_2 : decode cX6_broken 2 = .ok (.putfield 166, 3) := by decide +kernel
theorem dX6_broken_5 : decode cX6_broken 5 = .ok (.iload_n 1, 1) := by decide +kernel
theorem dX6_broken_6 : decode cX6_broken 6 = .ok (.ireturn, 1) := by decide +kernel
theorem dX6_breaks_0 : decode cX6_breaks 0 = .ok (.aload_n 0, 1) := by decide +kernel
theorem dX6_breaks_1 : decode cX6_breaks 1 = .ok (.iload_n 1, 1) := by decide +kernel
theorem dX6_breaks_2 : decode cX6_breaks 2 = .ok (.putfield 142, 3) := by decide +kernel
theorem dX6_breaks_5 : decode cX6_breaks 5 = .ok (.aload_n 0, 1) := by decide +kernel
theorem dX6_breaks_6 : decode cX6_breaks 6 = .ok (.iload_n 2, 1) := by decide +kernel
theorem dX6_breaks_7 : decode cX6_breaks 7 = .ok (.putfield 157, 3) := by decide +kernel
theorem dX6_breaks_10 : decode cX6_breaks 10 = .ok (.aload_n 0, 1) := by decide +kernel
theorem dX6_breaks_11 : decode cX6_breaks 11 = .ok (.iload_n 3, 1) := by decide +kernel
theorem dX6_breaks_12 : decode cX6_breaks 12 = .ok (.putfield 136, 3) := by decide +kernel
theorem dX6_breaks_15 : decode cX6_breaks 15 = .ok (.aload_n 0, 1) := by decide +kernel
theorem dX6_breaks_16 : decode cX6_breaks 16 = .ok (.iload 4, 2) := by decide +kernel
theorem dX6_breaks_18 : decode cX6_breaks 18 = .ok (.putfield 148, 3) := by decide +kernel
theorem dX6_breaks_21 : decode cX6_breaks 21 = .ok (.aload_n 0, 1) := by decide +kernel
theorem dX6_breaks_22 : decode cX6_breaks 22 = .ok (.iload 4, 2) := by decide +kernel
theorem dX6_breaks_24 : decode cX6_breaks 24 = .ok (.iload 5, 2) := by decide +kernel
theorem dX6_breaks_26 : decode cX6_breaks 26 = .ok (.iadd, 1) := by decide +kernel
theorem dX6_breaks_27 : decode cX6_breaks 27 = .ok (.putfield 139, 3) := by decide +kernel
theorem dX6_breaks_30 : decode cX6_breaks 30 = .ok (.aload_n 0, 1) := by decide +kernel
theorem dX6_breaks_31 : decode cX6_breaks 31 = .ok (.iload 6, 2) := by decide +kernel
theorem dX6_breaks_33 : decode cX6_breaks 33 = .ok (.putfield 133, 3) := by decide +kernel
theorem dX6_breaks_36 : decode cX6_breaks 36 = .ok (.iload_n 3, 1) := by decide +kernel
theorem dX6_breaks_37 : decode cX6_breaks 37 = .ok (.aload_n 0, 1) := by decide +kernel
theorem dX6_breaks_38 : decode cX6_breaks 38 = .ok (.getfield 9, 3) := by decide +kernel
theorem dX6_breaks_41 : decode cX6_breaks 41 = .ok (.iconst 0, 1) := by decide +kernel
theorem dX6_breaks_42 : decode cX6_breaks 42 = .ok (.iaload, 1) := by decide +kernel
theorem dX6_breaks_43 : decode cX6_breaks 43 = .ok (.if_icmp .ge 15, 3) := by decide +kernel
theorem dX6_breaks_46 : decode cX6_breaks 46 = .ok (.aload_n 0, 1) := by decide +kernel
theorem dX6_breaks_47 : decode cX6_breaks 47 = .ok (.iconst 1, 1) := by decide +kernel
theorem dX6_breaks_48 : decode cX6_breaks 48 = .ok (.aload_n 0, 1) := by decide +kernel
theorem dX6_breaks_49 : decode cX6_breaks 49 = .ok (.getfield 9, 3) := by decide +kernel
theorem dX6_breaks_52 : decode cX6_breaks 52 = .ok (.iconst 0, 1) := by decide +kernel
theorem dX6_breaks_53 : decode cX6_breaks 53 = .ok (.iaload, 1) := by decide +kernel
theorem dX6_breaks_54 : decode cX6_breaks 54 = .ok (.invokevirtual 169, 3) := by decide +kernel
theorem dX6_breaks_57 : decode cX6_breaks 57 = .ok (.ireturn, 1) := by decide +kernel
theorem dX6_breaks_58 : decode cX6_breaks 58 = .ok (.aload_n 0, 1) := by decide +kernel
theorem dX6_breaks_59 : decode cX6_breaks 59 = .ok (.iload_n 1, 1) := by decide +kernel
theorem dX6_breaks_60 : decode cX6_breaks 60 = .ok (.iload_n 3, 1) := by decide +kernel
theorem dX6_breaks_61 : decode cX6_breaks 61 = .ok (.invokevirtual 172, 3) := by decide +kernel
theorem dX6_breaks_64 : decode cX6_breaks 64 = .ok (.ifCond .eq 10, 3) := by decide +kernel
theorem dX6_breaks_67 : decode cX6_breaks 67 = .ok (.aload_n 0, 1) := by decide +kernel
theorem dX6_breaks_68 : decode cX6_breaks 68 = .ok (.iconst 2, 1) := by decide +kernel
theorem dX6_breaks_69 : decode cX6_breaks 69 = .ok (.iload_n 1, 1) := by decide +kernel
theorem dX6_breaks_70 : decode cX6_breaks 70 = .ok (.invokevirtual 169, 3) := by decide +kernel
theorem dX6_breaks_73 : decode cX6_breaks 73 = .ok (.ireturn, 1) := by decide +kernel
theorem dX6_breaks_74 : decode cX6_breaks 74 = .ok (.iload_n 3, 1) := by decide +kernel
theorem dX6_breaks_75 : decode cX6_breaks 75 = .ok (.aload_n 0, 1) := by decide +kernel
theorem dX6_breaks_76 : decode cX6_breaks 76 = .ok (.iload_n 2, 1) := by decide +kernel
theorem dX6_breaks_77 : decode cX6_breaks 77 = .ok (.iconst 4, 1) := by decide +kernel
theorem dX6_breaks_78 : decode cX6_breaks 78 = .ok (.invokevirtual 81, 3) := by decide +kernel
theorem dX6_breaks_81 : decode cX6_breaks 81 = .ok (.if_icmp .ge 15, 3) := by decide +kernel
theorem dX6_breaks_84 : decode cX6_breaks 84 = .ok (.aload_n 0, 1) := by decide +kernel
theorem dX6_breaks_85 : decode cX6_breaks 85 = .ok (.iconst 3, 1) := by decide +kernel
theorem dX6_breaks_86 : decode cX6_breaks 86 = .ok (.aload_n 0, 1) := by decide +kernel
theorem dX6_breaks_87 : decode cX6_breaks 87 = .ok (.iload_n 2, 1) := by decide +kernel
theorem dX6_breaks_88 : decode cX6_breaks 88 = .ok (.iconst 4, 1) := by decide +kernel
theorem dX6_breaks_89 : decode cX6_breaks 89 = .ok (.invokevirtual 81, 3) := by decide +kernel
theorem dX6_breaks_92 : decode cX6_breaks 92 = .ok (.invokevirtual 169, 3) := by decide +kernel
theorem dX6_breaks_95 : decode cX6_breaks 95 = .ok (.ireturn, 1) := by decide +kernel
theorem dX6_breaks_96 : decode cX6_breaks 96 = .ok (.aload_n 0, 1) := by decide +kernel
theorem dX6_breaks_97 : decode cX6_breaks 97 = .ok (.iload_n 2, 1) := by decide +kernel
theorem dX6_breaks_98 : decode cX6_breaks 98 = .ok (.iconst 1, 1) := by decide +kernel
theorem dX6_breaks_99 : decode cX6_breaks 99 = .ok (.invokevirtual 81, 3) := by decide +kernel
theorem dX6_breaks_102 : decode cX6_breaks 102 = .ok (.aload_n 0, 1) := by decide +kernel
theorem dX6_breaks_103 : decode cX6_breaks 103 = .ok (.getfield 9, 3) := by decide +kernel
theorem dX6_breaks_106 : decode cX6_breaks 106 = .ok (.bipush 14, 2) := by decide +kernel
theorem dX6_breaks_108 : decode cX6_breaks 108 = .ok (.iload 4, 2) := by decide +kernel
theorem dX6_breaks_110 : decode cX6_breaks 110 = .ok (.bipush 60, 2) := by decide +kernel
theorem dX6_breaks_112 : decode cX6_breaks 112 = .ok (.idiv, 1) := by decide +kernel
theorem dX6_breaks_113 : decode cX6_breaks 113 = .ok (.iadd, 1) := by decide +kernel
theorem dX6_breaks_114 : decode cX6_breaks 114 = .ok (.iaload, 1) := by decide +kernel
theorem dX6_breaks_115 : decode cX6_breaks 115 = .ok (.if_icmp .le 22, 3) := by decide +kernel
theorem dX6_breaks_118 : decode cX6_breaks 118 = .ok (.aload_n 0, 1) := by decide +kernel
theorem dX6_breaks_119 : decode cX6_breaks 119 = .ok (.iconst 4, 1) := by decide +kernel
theorem dX6_breaks_120 : decode cX6_breaks 120 = .ok (.aload_n 0, 1) := by decide +kernel
theorem dX6_breaks_121 : decode cX6_breaks 121 = .ok (.getfield 9, 3) := by decide +kernel
theorem dX6_breaks_124 : decode cX6_breaks 124 = .ok (.bipush 14, 2) := by decide +kernel
theorem dX6_breaks_126 : decode cX6_breaks 126 = .ok (.iload 4, 2) := by decide +kernel
theorem dX6_breaks_128 : decode cX6_breaks 128 = .ok (.bipush 60, 2) := by decide +kernel
theorem dX6_breaks_130 : decode cX6_breaks 130 = .ok (.idiv, 1) := by decide +kernel
theorem dX6_breaks_131 : decode cX6_breaks 131 = .ok (.iadd, 1) := by decide +kernel
theorem dX6_breaks_132 : decode cX6_breaks 132 = .ok (.iaload, 1) := by decide +kernel
theorem dX6_breaks_133 : decode cX6_breaks 133 = .ok (.invokevirtual 169, 3) := by decide +kernel
theorem dX6_breaks_136 : decode cX6_breaks 136 = .ok (.ireturn, 1) := by decide +kernel
theorem dX6_breaks_137 : decode cX6_breaks 137 = .ok (.aload_n 0, 1) := by decide +kernel
theorem dX6_breaks_138 : decode cX6_breaks 138 = .ok (.getfield 139, 3) := by decide +kernel
theorem dX6_breaks_141 : decode cX6_breaks 141 = .ok (.sipush 960, 3) := by decide +kernel
theorem dX6_breaks_144 : decode cX6_breaks 144 = .ok (.if_icmp .le 13, 3) := by decide +kernel
theorem dX6_breaks_147 : decode cX6_breaks 147 = .ok (.aload_n 0, 1) := by decide +kernel
theorem dX6_breaks_148 : decode cX6_breaks 148 = .ok (.iconst 5, 1) := by decide +kernel
theorem dX6_breaks_149 : decode cX6_breaks 149 = .ok (.aload_n 0, 1) := by decide +kernel
theorem dX6_breaks_150 : decode cX6_breaks 150 = .ok (.getfield 139, 3) := by decide +kernel
theorem dX6_breaks_153 : decode cX6_breaks 153 = .ok (.invokevirtual 169, 3) := by decide +kernel
theorem dX6_breaks_156 : decode cX6_breaks 156 = .ok (.ireturn, 1) := by decide +kernel
theorem dX6_breaks_157 : decode cX6_breaks 157 = .ok (.aload_n 0, 1) := by decide +kernel
theorem dX6_breaks_158 : decode cX6_breaks 158 = .ok (.invokevirtual 175, 3) := by decide +kernel
theorem dX6_breaks_161 : decode cX6_breaks 161 = .ok (.istore 7, 2) := by decide +kernel
theorem dX6_breaks_163 : decode cX6_breaks 163 = .ok (.iload 7, 2) := by decide +kernel
theorem dX6_breaks_165 : decode cX6_breaks 165 = .ok (.iconst (-1), 1) := by decide +kernel
theorem dX6_breaks_166 : decode cX6_breaks 166 = .ok (.if_icmp .eq 12, 3) := by decide +kernel
theorem dX6_breaks_169 : decode cX6_breaks 169 = .ok (.aload_n 0, 1) := by decide +kernel
theorem dX6_breaks_170 : decode cX6_breaks 170 = .ok (.bipush 6, 2) := by decide +kernel
theorem dX6_breaks_172 : decode cX6_breaks 172 = .ok (.iload 7, 2) := by decide +kernel
theorem dX6_breaks_174 : decode cX6_breaks 174 = .ok (.invokevirtual 169, 3) := by decide +kernel
theorem dX6_breaks_177 : decode cX6_breaks 177 = .ok (.ireturn, 1) := by decide +kernel
theorem dX6_breaks_178 : decode cX6_breaks 178 = .ok (.aload_n 0, 1) := by decide +kernel
theorem dX6_breaks_179 : decode cX6_breaks 179 = .ok (.invokevirtual 179, 3) := by decide +kernel
theorem dX6_breaks_182 : decode cX6_breaks 182 = .ok (.istore 8, 2) := by decide +kernel
theorem dX6_breaks_184 : decode cX6_breaks 184 = .ok (.iload 8, 2) := by decide +kernel
theorem dX6_breaks_186 : decode cX6_breaks 186 = .ok (.iconst (-1), 1) := by decide +kernel
theorem dX6_breaks_187 : decode cX6_breaks 187 = .ok (.if_icmp .eq 12, 3) := by decide +kernel
theorem dX6_breaks_190 : decode cX6_breaks 190 = .ok (.aload_n 0, 1) := by decide +kernel
theorem dX6_breaks_191 : decode cX6_breaks 191 = .ok (.bipush 7, 2) := by decide +kernel
theorem dX6_breaks_193 : decode cX6_breaks 193 = .ok (.iload 8, 2) := by decide +kernel
theorem dX6_breaks_195 : decode cX6_breaks 195 = .ok (.invokevirtual 169, 3) := by decide +kernel
theorem dX6_breaks_198 : decode cX6_breaks 198 = .ok (.ireturn, 1) := by decide +kernel
theorem dX6_breaks_199 : decode cX6_breaks 199 = .ok (.aload_n 0, 1) := by decide +kernel
theorem dX6_breaks_200 : decode cX6_breaks 200 = .ok (.invokevirtual 182, 3) := by decide +kernel
theorem dX6_breaks_203 : decode cX6_breaks 203 = .ok (.istore 9, 2) := by decide +kernel
theorem dX6_breaks_205 : decode cX6_breaks 205 = .ok (.iload 9, 2) := by decide +kernel
theorem dX6_breaks_207 : decode cX6_breaks 207 = .ok (.iconst (-1), 1) := by decide +kernel
theorem dX6_breaks_208 : decode cX6_breaks 208 = .ok (.if_icmp .eq 12, 3) := by decide +kernel
theorem dX6_breaks_211 : decode cX6_breaks 211 = .ok (.aload_n 0, 1) := by decide +kernel
theorem dX6_breaks_212 : decode cX6_breaks 212 = .ok (.bipush 8, 2) := by decide +kernel
theorem dX6_breaks_214 : decode cX6_breaks 214 = .ok (.iload 9, 2) := by decide +kernel
theorem dX6_breaks_216 : decode cX6_breaks 216 = .ok (.invokevirtual 169, 3) := by decide +kernel
theorem dX6_breaks_219 : decode cX6_breaks 219 = .ok (.ireturn, 1) := by decide +kernel
theorem dX6_breaks_220 : decode cX6_breaks 220 = .ok (.aload_n 0, 1) := by decide +kernel
theorem dX6_breaks_221 : decode cX6_breaks 221 = .ok (.invokevirtual 185, 3) := by decide +kernel
theorem dX6_breaks_224 : decode cX6_breaks 224 = .ok (.istore 10, 2) := by decide +kernel
theorem dX6_breaks_226 : decode cX6_breaks 226 = .ok (.iload 10, 2) := by decide +kernel
theorem dX6_breaks_228 : decode cX6_breaks 228 = .ok (.iconst (-1), 1) := by decide +kernel
theorem dX6_breaks_229 : decode cX6_breaks 229 = .ok (.if_icmp .eq 14, 3) := by decide +kernel
theorem dX6_breaks_232 : decode cX6_breaks 232 = .ok (.aload_n 0, 1) := by decide +kernel
theorem dX6_breaks_233 : decode cX6_breaks 233 = .ok (.bipush 9, 2) := by decide +kernel
theorem dX6_breaks_235 : decode cX6_breaks 235 = .ok (.iload 10, 2) := by decide +kernel
theorem dX6_breaks_237 : decode cX6_breaks 237 = .ok (.invokevirtual 169, 3) := by decide +kernel
theorem dX6_breaks_240 : decode cX6_breaks 240 = .ok (.goto 9, 3) := by decide +kernel
theorem dX6_breaks_243 : decode cX6_breaks 243 = .ok (.aload_n 0, 1) := by decide +kernel
theorem dX6_breaks_244 : decode cX6_breaks 244 = .ok (.iconst 0, 1) := by decide +kernel
theorem dX6_breaks_245 : decode cX6_breaks 245 = .ok (.iconst (-1), 1) := by decide +kernel
theorem dX6_breaks_246 : decode cX6_breaks 246 = .ok (.invokevirtual 169, 3) := by decide +kernel
theorem dX6_breaks_249 : decode cX6_breaks 249 = .ok (.ireturn, 1) := by decide +kernel
theorem dX6_breaksNew_0 : decode cX6_breaksNew 0 = .ok (.aload_n 0, 1) := by decide +kernel
theorem dX6_breaksNew_1 : decode cX6_breaksNew 1 = .ok (.iload_n 1, 1) := by decide +kernel
theorem dX6_breaksNew_2 : decode cX6_breaksNew 2 = .ok (.iload_n 2, 1) := by decide +kernel
theorem dX6_breaksNew_3 : decode cX6_breaksNew 3 = .ok (.iload_n 3, 1) := by decide +kernel
theorem dX6_breaksNew_4 : decode cX6_breaksNew 4 = .ok (.iload 4, 2) := by decide +kernel
theorem dX6_breaksNew_6 : decode cX6_breaksNew 6 = .ok (.aload_n 0, 1) := by decide +kernel
theorem dX6_breaksNew_7 : decode cX6_breaksNew 7 = .ok (.aload_n 0, 1) := by decide +kernel
theorem dX6_breaksNew_8 : decode cX6_breaksNew 8 = .ok (.iload_n 2, 1) := by decide +kernel
theorem dX6_breaksNew_9 : decode cX6_breaksNew 9 = .ok (.iload_n 3, 1) := by decide +kernel
theorem dX6_breaksNew_10 : decode cX6_breaksNew 10 = .ok (.invokevirtual 130, 3) := by decide +kernel
theorem dX6_breaksNew_13 : decode cX6_breaksNew 13 = .ok (.invokevirtual 119, 3) := by decide +kernel
theorem dX6_breaksNew_16 : decode cX6_breaksNew 16 = .ok (.aload_n 0, 1) := by decide +kernel
theorem dX6_breaksNew_17 : decode cX6_breaksNew 17 = .ok (.iload_n 2, 1) := by decide +kernel
theorem dX6_breaksNew_18 : decode cX6_breaksNew 18 = .ok (.iconst 0, 1) := by decide +kernel
theorem dX6_breaksNew_19 : decode cX6_breaksNew 19 = .ok (.invokevirtual 81, 3) := by decide +kernel
theorem dX6_breaksNew_22 : decode cX6_breaksNew 22 = .ok (.iadd, 1) := by decide +kernel
theorem dX6_breaksNew_23 : decode cX6_breaksNew 23 = .ok (.iconst (-1), 1) := by decide +kernel
theorem dX6_breaksNew_24 : decode cX6_breaksNew 24 = .ok (.invokevirtual 188, 3) := by decide +kernel
theorem dX6_breaksNew_27 : decode cX6_breaksNew 27 = .ok (.ireturn, 1) := by decide +kernel
theorem dX6_isPlace_0 : decode cX6_isPlace 0 = .ok (.iload_n 0, 1) := by decide +kernel
theorem dX6_isPlace_1 : decode cX6_isPlace 1 = .ok (.invokestatic 74, 3) := by decide +kernel
theorem dX6_isPlace_4 : decode cX6_isPlace 4 = .ok (.ifCond .eq 18, 3) := by decide +kernel
theorem dX6_isPlace_7 : decode cX6_isPlace 7 = .ok (.iload_n 1, 1) := by decide +kernel
theorem dX6_isPlace_8 : decode cX6_isPlace 8 = .ok (.iconst 0, 1) := by decide +kernel
theorem dX6_isPlace_9 : decode cX6_isPlace 9 = .ok (.sipush 959, 3) := by decide +kernel
theorem dX6_isPlace_12 : decode cX6_isPlace 12 = .ok (.invokestatic 64, 3) := by decide +kernel
theorem dX6_isPlace_15 : decode cX6_isPlace 15 = .ok (.ifCond .eq 7, 3) := by decide +kernel
theorem dX6_isPlace_18 : decode cX6_isPlace 18 = .ok (.iconst 1, 1) := by decide +kernel
theorem dX6_isPlace_19 : decode cX6_isPlace 19 = .ok (.goto 4, 3) := by decide +kernel
theorem dX6_isPlace_22 : decode cX6_isPlace 22 = .ok (.iconst 0, 1) := by decide +kernel
theorem dX6_isPlace_23 : decode cX6_isPlace 23 = .ok (.ireturn, 1) := by decide +kernel
theorem dX6_plan_0 : decode cX6_plan 0 = .ok (.aload_n 0, 1) := by decide +kernel
theorem dX6_plan_1 : decode cX6_plan 1 = .ok (.iload_n 1, 1) := by decide +kernel
theorem dX6_plan_2 : decode cX6_plan 2 = .ok (.invokevirtual 104, 3) := by decide +kernel
theorem dX6_plan_5 : decode cX6_plan 5 = .ok (.ifCond .eq 11, 3) := by decide +kernel
theorem dX6_plan_8 : decode cX6_plan 8 = .ok (.aload_n 0, 1) := by decide +kernel
theorem dX6_plan_9 : decode cX6_plan 9 = .ok (.iload_n 2, 1) := by decide +kernel
theorem dX6_plan_10 : decode cX6_plan 10 = .ok (.invokevirtual 78, 3) := by decide +kernel
theorem dX6_plan_13 : decode cX6_plan 13 = .ok (.ifCond .ne 9, 3) := by decide +kernel
theorem dX6_plan_16 : decode cX6_plan 16 = .ok (.aload_n 0, 1) := by decide +kernel
theorem dX6_plan_17 : decode cX6_plan 17 = .ok (.iconst 1, 1) := by decide +kernel
theorem dX6_plan_18 : decode cX6_plan 18 = .ok (.invokevirtual 45, 3) := by decide +kernel
theorem dX6_plan_21 : decode cX6_plan 21 = .ok (.ireturn, 1) := by decide +kernel
theorem dX6_plan_22 : decode cX6_plan 22 = .ok (.iload_n 3, 1) := by decide +kernel
theorem dX6_plan_23 : decode cX6_plan 23 = .ok (.iload 4, 2) := by decide +kernel
theorem dX6_plan_25 : decode cX6_plan 25 = .ok (.invokestatic 192, 3) := by decide +kernel
theorem dX6_plan_28 : decode cX6_plan 28 = .ok (.ifCond .ne 9, 3) := by decide +kernel
theorem dX6_plan_31 : decode cX6_plan 31 = .ok (.aload_n 0, 1) := by decide +kernel
theorem dX6_plan_32 : decode cX6_plan 32 = .ok (.iconst 2, 1) := by decide +kernel
theorem dX6_plan_33 : decode cX6_plan 33 = .ok (.invokevirtual 45, 3) := by decide +kernel
theorem dX6_plan_36 : decode cX6_plan 36 = .ok (.ireturn, 1) := by decide +kernel
theorem dX6_plan_37 : decode cX6_plan 37 = .ok (.aload_n 0, 1) := by decide +kernel
theorem dX6_plan_38 : decode cX6_plan 38 = .ok (.iload_n 1, 1) := by decide +kernel
theorem dX6_plan_39 : decode cX6_plan 39 = .ok (.iload_n 2, 1) := by decide +kernel
theorem dX6_plan_40 : decode cX6_plan 40 = .ok (.iload_n 3, 1) := by decide +kernel
theorem dX6_plan_41 : decode cX6_plan 41 = .ok (.iload 4, 2) := by decide +kernel
theorem dX6_plan_43 : decode cX6_plan 43 = .ok (.invokevirtual 195, 3) := by decide +kernel
theorem dX6_plan_46 : decode cX6_plan 46 = .ok (.istore 5, 2) := by decide +kernel
theorem dX6_plan_48 : decode cX6_plan 48 = .ok (.iload 5, 2) := by decide +kernel
theorem dX6_plan_50 : decode cX6_plan 50 = .ok (.ifCond .eq 15, 3) := by decide +kernel
theorem dX6_plan_53 : decode cX6_plan 53 = .ok (.aload_n 0, 1) := by decide +kernel
theorem dX6_plan_54 : decode cX6_plan 54 = .ok (.iload 5, 2) := by decide +kernel
theorem dX6_plan_56 : decode cX6_plan 56 = .ok (.aload_n 0, 1) := by decide +kernel
theorem dX6_plan_57 : decode cX6_plan 57 = .ok (.getfield 166, 3) := by decide +kernel
theorem dX6_plan_60 : decode cX6_plan 60 = .ok (.iconst 3, 1) := by decide +kernel
theorem dX6_plan_61 : decode cX6_plan 61 = .ok (.invokevirtual 199, 3) := by decide +kernel
theorem dX6_plan_64 : decode cX6_plan 64 = .ok (.ireturn, 1) := by decide +kernel
theorem dX6_plan_65 : decode cX6_plan 65 = .ok (.aload_n 0, 1) := by decide +kernel
theorem dX6_plan_66 : decode cX6_plan 66 = .ok (.getfield 9, 3) := by decide +kernel
theorem dX6_plan_69 : decode cX6_plan 69 = .ok (.iconst 4, 1) := by decide +kernel
theorem dX6_plan_70 : decode cX6_plan 70 = .ok (.iaload, 1) := by decide +kernel
theorem dX6_plan_71 : decode cX6_plan 71 = .ok (.bipush 30, 2) := by decide +kernel
theorem dX6_plan_73 : decode cX6_plan 73 = .ok (.if_icmp .ne 13, 3) := by decide +kernel
theorem dX6_plan_76 : decode cX6_plan 76 = .ok (.aload_n 0, 1) := by decide +kernel
theorem dX6_plan_77 : decode cX6_plan 77 = .ok (.bipush 10, 2) := by decide +kernel
theorem dX6_plan_79 : decode cX6_plan 79 = .ok (.bipush 30, 2) := by decide +kernel
theorem dX6_plan_81 : decode cX6_plan 81 = .ok (.iconst 3, 1) := by decide +kernel
theorem dX6_plan_82 : decode cX6_plan 82 = .ok (.invokevirtual 199, 3) := by decide +kernel
theorem dX6_plan_85 : decode cX6_plan 85 = .ok (.ireturn, 1) := by decide +kernel
theorem dX6_plan_86 : decode cX6_plan 86 = .ok (.aload_n 0, 1) := by decide +kernel
theorem dX6_plan_87 : decode cX6_plan 87 = .ok (.invokevirtual 68, 3) := by decide +kernel
theorem dX6_plan_90 : decode cX6_plan 90 = .ok (.aload_n 0, 1) := by decide +kernel
theorem dX6_plan_91 : decode cX6_plan 91 = .ok (.getfield 9, 3) := by decide +kernel
theorem dX6_plan_94 : decode cX6_plan 94 = .ok (.iconst 4, 1) := by decide +kernel
theorem dX6_plan_95 : decode cX6_plan 95 = .ok (.iaload, 1) := by decide +kernel
theorem dX6_plan_96 : decode cX6_plan 96 = .ok (.istore 6, 2) := by decide +kernel
theorem dX6_plan_98 : decode cX6_plan 98 = .ok (.sipush 158, 3) := by decide +kernel
theorem dX6_plan_101 : decode cX6_plan 101 = .ok (.bipush 9, 2) := by decide +kernel
theorem dX6_plan_103 : decode cX6_plan 103 = .ok (.iload 6, 2) := by decide +kernel
theorem dX6_plan_105 : decode cX6_plan 105 = .ok (.imul, 1) := by decide +kernel
theorem dX6_plan_106 : decode cX6_plan 106 = .ok (.iadd, 1) := by decide +kernel
theorem dX6_plan_107 : decode cX6_plan 107 = .ok (.istore 7, 2) := by decide +kernel
theorem dX6_plan_109 : decode cX6_plan 109 = .ok (.aload_n 0, 1) := by decide +kernel
theorem dX6_plan_110 : decode cX6_plan 110 = .ok (.iload_n 2, 1) := by decide +kernel
theorem dX6_plan_111 : decode cX6_plan 111 = .ok (.iload_n 3, 1) := by decide +kernel
theorem dX6_plan_112 : decode cX6_plan 112 = .ok (.invokevirtual 130, 3) := by decide +kernel
theorem dX6_plan_115 : decode cX6_plan 115 = .ok (.istore 8, 2) := by decide +kernel
theorem dX6_plan_117 : decode cX6_plan 117 = .ok (.aload_n 0, 1) := by decide +kernel
theorem dX6_plan_118 : decode cX6_plan 118 = .ok (.getfield 9, 3) := by decide +kernel
theorem dX6_plan_121 : decode cX6_plan 121 = .ok (.iload 7, 2) := by decide +kernel
theorem dX6_plan_123 : decode cX6_plan 123 = .ok (.iconst 0, 1) := by decide +kernel
theorem dX6_plan_124 : decode cX6_plan 124 = .ok (.iadd, 1) := by decide +kernel
theorem dX6_plan_125 : decode cX6_plan 125 = .ok (.iload_n 1, 1) := by decide +kernel
theorem dX6_plan_126 : decode cX6_plan 126 = .ok (.iastore, 1) := by decide +kernel
theorem dX6_plan_127 : decode cX6_plan 127 = .ok (.aload_n 0, 1) := by decide +kernel
theorem dX6_plan_128 : decode cX6_plan 128 = .ok (.getfield 9, 3) := by decide +kernel
theorem dX6_plan_131 : decode cX6_plan 131 = .ok (.iload 7, 2) := by decide +kernel
theorem dX6_plan_133 : decode cX6_plan 133 = .ok (.iconst 1, 1) := by decide +kernel
theorem dX6_plan_134 : decode cX6_plan 134 = .ok (.iadd, 1) := by decide +kernel
theorem dX6_plan_135 : decode cX6_plan 135 = .ok (.iload_n 2, 1) := by decide +kernel
theorem dX6_plan_136 : decode cX6_plan 136 = .ok (.iastore, 1) := by decide +kernel
theorem dX6_plan_137 : decode cX6_plan 137 = .ok (.aload_n 0, 1) := by decide +kernel
theorem dX6_plan_138 : decode cX6_plan 138 = .ok (.getfield 9, 3) := by decide +kernel
theorem dX6_plan_141 : decode cX6_plan 141 = .ok (.iload 7, 2) := by decide +kernel
theorem dX6_plan_143 : decode cX6_plan 143 = .ok (.iconst 2, 1) := by decide +kernel
theorem dX6_plan_144 : decode cX6_plan 144 = .ok (.iadd, 1) := by decide +kernel
theorem dX6_plan_145 : decode cX6_plan 145 = .ok (.iload_n 3, 1) := by decide +kernel
theorem dX6_plan_146 : decode cX6_plan 146 = .ok (.iastore, 1) := by decide +kernel
theorem dX6_plan_147 : decode cX6_plan 147 = .ok (.aload_n 0, 1) := by decide +kernel
theorem dX6_plan_148 : decode cX6_plan 148 = .ok (.getfield 9, 3) := by decide +kernel
theorem dX6_plan_151 : decode cX6_plan 151 = .ok (.iload 7, 2) := by decide +kernel
theorem dX6_plan_153 : decode cX6_plan 153 = .ok (.iconst 3, 1) := by decide +kernel
theorem dX6_plan_154 : decode cX6_plan 154 = .ok (.iadd, 1) := by decide +kernel
theorem dX6_plan_155 : decode cX6_plan 155 = .ok (.iload 4, 2) := by decide +kernel
theorem dX6_plan_157 : decode cX6_plan 157 = .ok (.iastore, 1) := by decide +kernel
theorem dX6_plan_158 : decode cX6_plan 158 = .ok (.aload_n 0, 1) := by decide +kernel
theorem dX6_plan_159 : decode cX6_plan 159 = .ok (.getfield 9, 3) := by decide +kernel
theorem dX6_plan_162 : decode cX6_plan 162 = .ok (.iload 7, 2) := by decide +kernel
theorem dX6_plan_164 : decode cX6_plan 164 = .ok (.iconst 4, 1) := by decide +kernel
theorem dX6_plan_165 : decode cX6_plan 165 = .ok (.iadd, 1) := by decide +kernel
theorem dX6_plan_166 : decode cX6_plan 166 = .ok (.iload 8, 2) := by decide +kernel
theorem dX6_plan_168 : decode cX6_plan 168 = .ok (.iastore, 1) := by decide +kernel
theorem dX6_plan_169 : decode cX6_plan 169 = .ok (.aload_n 0, 1) := by decide +kernel
theorem dX6_plan_170 : decode cX6_plan 170 = .ok (.getfield 9, 3) := by decide +kernel
theorem dX6_plan_173 : decode cX6_plan 173 = .ok (.iload 7, 2) := by decide +kernel
theorem dX6_plan_175 : decode cX6_plan 175 = .ok (.iconst 5, 1) := by decide +kernel
theorem dX6_plan_176 : decode cX6_plan 176 = .ok (.iadd, 1) := by decide +kernel
theorem dX6_plan_177 : decode cX6_plan 177 = .ok (.aload_n 0, 1) := by decide +kernel
theorem dX6_plan_178 : decode cX6_plan 178 = .ok (.iload 8, 2) := by decide +kernel
theorem dX6_plan_180 : decode cX6_plan 180 = .ok (.invokevirtual 119, 3) := by decide +kernel
theorem dX6_plan_183 : decode cX6_plan 183 = .ok (.iastore, 1) := by decide +kernel
theorem dX6_plan_184 : decode cX6_plan 184 = .ok (.aload_n 0, 1) := by decide +kernel
theorem dX6_plan_185 : decode cX6_plan 185 = .ok (.getfield 9, 3) := by decide +kernel
theorem dX6_plan_188 : decode cX6_plan 188 = .ok (.iload 7, 2) := by decide +kernel
theorem dX6_plan_190 : decode cX6_plan 190 = .ok (.bipush 6, 2) := by decide +kernel
theorem dX6_plan_192 : decode cX6_plan 192 = .ok (.iadd, 1) := by decide +kernel
theorem dX6_plan_193 : decode cX6_plan 193 = .ok (.aload_n 0, 1) := by decide +kernel
theorem dX6_plan_194 : decode cX6_plan 194 = .ok (.getfield 9, 3) := by decide +kernel
theorem dX6_plan_197 : decode cX6_plan 197 = .ok (.bipush 13, 2) := by decide +kernel
theorem dX6_plan_199 : decode cX6_plan 199 = .ok (.iaload, 1) := by decide +kernel
theorem dX6_plan_200 : decode cX6_plan 200 = .ok (.iastore, 1) := by decide +kernel
theorem dX6_plan_201 : decode cX6_plan 201 = .ok (.aload_n 0, 1) := by decide +kernel
theorem dX6_plan_202 : decode cX6_plan 202 = .ok (.getfield 9, 3) := by decide +kernel
theorem dX6_plan_205 : decode cX6_plan 205 = .ok (.iload 7, 2) := by decide +kernel
theorem dX6_plan_207 : decode cX6_plan 207 = .ok (.bipush 7, 2) := by decide +kernel
theorem dX6_plan_209 : decode cX6_plan 209 = .ok (.iadd, 1) := by decide +kernel
theorem dX6_plan_210 : decode cX6_plan 210 = .ok (.iconst 0, 1) := by decide +kernel
theorem dX6_plan_211 : decode cX6_plan 211 = .ok (.iastore, 1) := by decide +kernel
theorem dX6_plan_212 : decode cX6_plan 212 = .ok (.aload_n 0, 1) := by decide +kernel
theorem dX6_plan_213 : decode cX6_plan 213 = .ok (.getfield 9, 3) := by decide +kernel
theorem dX6_plan_216 : decode cX6_plan 216 = .ok (.iload 7, 2) := by decide +kernel
theorem dX6_plan_218 : decode cX6_plan 218 = .ok (.bipush 8, 2) := by decide +kernel
theorem dX6_plan_220 : decode cX6_plan 220 = .ok (.iadd, 1) := by decide +kernel
theorem dX6_plan_221 : decode cX6_plan 221 = .ok (.iconst 0, 1) := by decide +kernel
theorem dX6_plan_222 : decode cX6_plan 222 = .ok (.iastore, 1) := by decide +kernel
theorem dX6_plan_223 : decode cX6_plan 223 = .ok (.aload_n 0, 1) := by decide +kernel
theorem dX6_plan_224 : decode cX6_plan 224 = .ok (.getfield 9, 3) := by decide +kernel
theorem dX6_plan_227 : decode cX6_plan 227 = .ok (.iconst 4, 1) := by decide +kernel
theorem dX6_plan_228 : decode cX6_plan 228 = .ok (.dup2, 1) := by decide +kernel
theorem dX6_plan_229 : decode cX6_plan 229 = .ok (.iaload, 1) := by decide +kernel
theorem dX6_plan_230 : decode cX6_plan 230 = .ok (.iconst 1, 1) := by decide +kernel
theorem dX6_plan_231 : decode cX6_plan 231 = .ok (.iadd, 1) := by decide +kernel
theorem dX6_plan_232 : decode cX6_plan 232 = .ok (.iastore, 1) := by decide +kernel
theorem dX6_plan_233 : decode cX6_plan 233 = .ok (.aload_n 0, 1) := by decide +kernel
theorem dX6_plan_234 : decode cX6_plan 234 = .ok (.iload 6, 2) := by decide +kernel
theorem dX6_plan_236 : decode cX6_plan 236 = .ok (.invokevirtual 71, 3) := by decide +kernel
theorem dX6_plan_239 : decode cX6_plan 239 = .ok (.ireturn, 1) := by decide +kernel
theorem dX6_move_0 : decode cX6_move 0 = .ok (.aload_n 0, 1) := by decide +kernel
theorem dX6_move_1 : decode cX6_move 1 = .ok (.iload_n 1, 1) := by decide +kernel
theorem dX6_move_2 : decode cX6_move 2 = .ok (.invokevirtual 203, 3) := by decide +kernel
theorem dX6_move_5 : decode cX6_move 5 = .ok (.ifCond .eq 11, 3) := by decide +kernel
theorem dX6_move_8 : decode cX6_move 8 = .ok (.aload_n 0, 1) := by decide +kernel
theorem dX6_move_9 : decode cX6_move 9 = .ok (.iload_n 2, 1) := by decide +kernel
theorem dX6_move_10 : decode cX6_move 10 = .ok (.invokevirtual 104, 3) := by decide +kernel
theorem dX6_move_13 : decode cX6_move 13 = .ok (.ifCond .ne 9, 3) := by decide +kernel
theorem dX6_move_16 : decode cX6_move 16 = .ok (.aload_n 0, 1) := by decide +kernel
theorem dX6_move_17 : decode cX6_move 17 = .ok (.iconst 1, 1) := by decide +kernel
theorem dX6_move_18 : decode cX6_move 18 = .ok (.invokevirtual 45, 3) := by decide +kernel
theorem dX6_move_21 : decode cX6_move 21 = .ok (.ireturn, 1) := by decide +kernel
theorem dX6_move_22 : decode cX6_move 22 = .ok (.iload_n 3, 1) := by decide +kernel
theorem dX6_move_23 : decode cX6_move 23 = .ok (.iconst 0, 1) := by decide +kernel
theorem dX6_move_24 : decode cX6_move 24 = .ok (.sipush 959, 3) := by decide +kernel
theorem dX6_move_27 : decode cX6_move 27 = .ok (.invokestatic 64, 3) := by decide +kernel
theorem dX6_move_30 : decode cX6_move 30 = .ok (.ifCond .ne 9, 3) := by decide +kernel
theorem dX6_move_33 : decode cX6_move 33 = .ok (.aload_n 0, 1) := by decide +kernel
theorem dX6_move_34 : decode cX6_move 34 = .ok (.iconst 2, 1) := by decide +kernel
theorem dX6_move_35 : decode cX6_move 35 = .ok (.invokevirtual 45, 3) := by decide +kernel
theorem dX6_move_38 : decode cX6_move 38 = .ok (.ireturn, 1) := by decide +kernel
theorem dX6_move_39 : decode cX6_move 39 = .ok (.aload_n 0, 1) := by decide +kernel
theorem dX6_move_40 : decode cX6_move 40 = .ok (.iload_n 1, 1) := by decide +kernel
theorem dX6_move_41 : decode cX6_move 41 = .ok (.invokevirtual 107, 3) := by decide +kernel
theorem dX6_move_44 : decode cX6_move 44 = .ok (.ifCond .eq 11, 3) := by decide +kernel
theorem dX6_move_47 : decode cX6_move 47 = .ok (.aload_n 0, 1) := by decide +kernel
theorem dX6_move_48 : decode cX6_move 48 = .ok (.iload_n 1, 1) := by decide +kernel
theorem dX6_move_49 : decode cX6_move 49 = .ok (.invokevirtual 206, 3) := by decide +kernel
theorem dX6_move_52 : decode cX6_move 52 = .ok (.ifCond .eq 9, 3) := by decide +kernel
theorem dX6_move_55 : decode cX6_move 55 = .ok (.aload_n 0, 1) := by decide +kernel
theorem dX6_move_56 : decode cX6_move 56 = .ok (.iconst 3, 1) := by decide +kernel
theorem dX6_move_57 : decode cX6_move 57 = .ok (.invokevirtual 45, 3) := by decide +kernel
theorem dX6_move_60 : decode cX6_move 60 = .ok (.ireturn, 1) := by decide +kernel
theorem dX6_move_61 : decode cX6_move 61 = .ok (.aload_n 0, 1) := by decide +kernel
theorem dX6_move_62 : decode cX6_move 62 = .ok (.iload_n 2, 1) := by decide +kernel
theorem dX6_move_63 : decode cX6_move 63 = .ok (.iconst 0, 1) := by decide +kernel
theorem dX6_move_64 : decode cX6_move 64 = .ok (.invokevirtual 95, 3) := by decide +kernel
theorem dX6_move_67 : decode cX6_move 67 = .ok (.aload_n 0, 1) := by decide +kernel
theorem dX6_move_68 : decode cX6_move 68 = .ok (.iload_n 1, 1) := by decide +kernel
theorem dX6_move_69 : decode cX6_move 69 = .ok (.bipush 7, 2) := by decide +kernel
theorem dX6_move_71 : decode cX6_move 71 = .ok (.invokevirtual 89, 3) := by decide +kernel
theorem dX6_move_74 : decode cX6_move 74 = .ok (.if_icmp .ge 17, 3) := by decide +kernel
theorem dX6_move_77 : decode cX6_move 77 = .ok (.aload_n 0, 1) := by decide +kernel
theorem dX6_move_78 : decode cX6_move 78 = .ok (.bipush 11, 2) := by decide +kernel
theorem dX6_move_80 : decode cX6_move 80 = .ok (.aload_n 0, 1) := by decide +kernel
theorem dX6_move_81 : decode cX6_move 81 = .ok (.iload_n 2, 1) := by decide +kernel
theorem dX6_move_82 : decode cX6_move 82 = .ok (.iconst 0, 1) := by decide +kernel
theorem dX6_move_83 : decode cX6_move 83 = .ok (.invokevirtual 95, 3) := by decide +kernel
theorem dX6_move_86 : decode cX6_move 86 = .ok (.iconst 4, 1) := by decide +kernel
theorem dX6_move_87 : decode cX6_move 87 = .ok (.invokevirtual 199, 3) := by decide +kernel
theorem dX6_move_90 : decode cX6_move 90 = .ok (.ireturn, 1) := by decide +kernel
theorem dX6_move_91 : decode cX6_move 91 = .ok (.aload_n 0, 1) := by decide +kernel
theorem dX6_move_92 : decode cX6_move 92 = .ok (.iload_n 2, 1) := by decide +kernel
theorem dX6_move_93 : decode cX6_move 93 = .ok (.aload_n 0, 1) := by decide +kernel
theorem dX6_move_94 : decode cX6_move 94 = .ok (.iload_n 1, 1) := by decide +kernel
theorem dX6_move_95 : decode cX6_move 95 = .ok (.iconst 1, 1) := by decide +kernel
theorem dX6_move_96 : decode cX6_move 96 = .ok (.invokevirtual 89, 3) := by decide +kernel
theorem dX6_move_99 : decode cX6_move 99 = .ok (.aload_n 0, 1) := by decide +kernel
theorem dX6_move_100 : decode cX6_move 100 = .ok (.iload_n 1, 1) := by decide +kernel
theorem dX6_move_101 : decode cX6_move 101 = .ok (.iconst 2, 1) := by decide +kernel
theorem dX6_move_102 : decode cX6_move 102 = .ok (.invokevirtual 89, 3) := by decide +kernel
theorem dX6_move_105 : decode cX6_move 105 = .ok (.iload_n 3, 1) := by decide +kernel
theorem dX6_move_106 : decode cX6_move 106 = .ok (.aload_n 0, 1) := by decide +kernel
theorem dX6_move_107 : decode cX6_move 107 = .ok (.iload_n 1, 1) := by decide +kernel
theorem dX6_move_108 : decode cX6_move 108 = .ok (.invokevirtual 92, 3) := by decide +kernel
theorem dX6_move_111 : decode cX6_move 111 = .ok (.iload_n 1, 1) := by decide +kernel
theorem dX6_move_112 : decode cX6_move 112 = .ok (.invokevirtual 188, 3) := by decide +kernel
theorem dX6_move_115 : decode cX6_move 115 = .ok (.istore 4, 2) := by decide +kernel
theorem dX6_move_117 : decode cX6_move 117 = .ok (.iload 4, 2) := by decide +kernel
theorem dX6_move_119 : decode cX6_move 119 = .ok (.ifCond .eq 15, 3) := by decide +kernel
theorem dX6_move_122 : decode cX6_move 122 = .ok (.aload_n 0, 1) := by decide +kernel
theorem dX6_move_123 : decode cX6_move 123 = .ok (.iload 4, 2) := by decide +kernel
theorem dX6_move_125 : decode cX6_move 125 = .ok (.aload_n 0, 1) := by decide +kernel
theorem dX6_move_126 : decode cX6_move 126 = .ok (.getfield 166, 3) := by decide +kernel
theorem dX6_move_129 : decode cX6_move 129 = .ok (.iconst 4, 1) := by decide +kernel
theorem dX6_move_130 : decode cX6_move 130 = .ok (.invokevirtual 199, 3) := by decide +kernel
theorem dX6_move_133 : decode cX6_move 133 = .ok (.ireturn, 1) := by decide +kernel
theorem dX6_move_134 : decode cX6_move 134 = .ok (.aload_n 0, 1) := by decide +kernel
theorem dX6_move_135 : decode cX6_move 135 = .ok (.invokevirtual 68, 3) := by decide +kernel
theorem dX6_move_138 : decode cX6_move 138 = .ok (.iload_n 3, 1) := by decide +kernel
theorem dX6_move_139 : decode cX6_move 139 = .ok (.aload_n 0, 1) := by decide +kernel
theorem dX6_move_140 : decode cX6_move 140 = .ok (.iload_n 1, 1) := by decide +kernel
theorem dX6_move_141 : decode cX6_move 141 = .ok (.iconst 3, 1) := by decide +kernel
theorem dX6_move_142 : decode cX6_move 142 = .ok (.invokevirtual 89, 3) := by decide +kernel
theorem dX6_move_145 : decode cX6_move 145 = .ok (.isub, 1) := by decide +kernel
theorem dX6_move_146 : decode cX6_move 146 = .ok (.istore 5, 2) := by decide +kernel
theorem dX6_move_148 : decode cX6_move 148 = .ok (.aload_n 0, 1) := by decide +kernel
theorem dX6_move_149 : decode cX6_move 149 = .ok (.getfield 9, 3) := by decide +kernel
theorem dX6_move_152 : decode cX6_move 152 = .ok (.sipush 158, 3) := by decide +kernel
theorem dX6_move_155 : decode cX6_move 155 = .ok (.bipush 9, 2) := by decide +kernel
theorem dX6_move_157 : decode cX6_move 157 = .ok (.iload_n 1, 1) := by decide +kernel
theorem dX6_move_158 : decode cX6_move 158 = .ok (.imul, 1) := by decide +kernel
theorem dX6_move_159 : decode cX6_move 159 = .ok (.iadd, 1) := by decide +kernel
theorem dX6_move_160 : decode cX6_move 160 = .ok (.iconst 0, 1) := by decide +kernel
theorem dX6_move_161 : decode cX6_move 161 = .ok (.iadd, 1) := by decide +kernel
theorem dX6_move_162 : decode cX6_move 162 = .ok (.iload_n 2, 1) := by decide +kernel
theorem dX6_move_163 : decode cX6_move 163 = .ok (.iastore, 1) := by decide +kernel
theorem dX6_move_164 : decode cX6_move 164 = .ok (.aload_n 0, 1) := by decide +kernel
theorem dX6_move_165 : decode cX6_move 165 = .ok (.getfield 9, 3) := by decide +kernel
theorem dX6_move_168 : decode cX6_move 168 = .ok (.sipush 158, 3) := by decide +kernel
theorem dX6_move_171 : decode cX6_move 171 = .ok (.bipush 9, 2) := by decide +kernel
theorem dX6_move_173 : decode cX6_move 173 = .ok (.iload_n 1, 1) := by decide +kernel
theorem dX6_move_174 : decode cX6_move 174 = .ok (.imul, 1) := by decide +kernel
theorem dX6_move_175 : decode cX6_move 175 = .ok (.iadd, 1) := by decide +kernel
theorem dX6_move_176 : decode cX6_move 176 = .ok (.iconst 3, 1) := by decide +kernel
theorem dX6_move_177 : decode cX6_move 177 = .ok (.iadd, 1) := by decide +kernel
theorem dX6_move_178 : decode cX6_move 178 = .ok (.iload_n 3, 1) := by decide +kernel
theorem dX6_move_179 : decode cX6_move 179 = .ok (.iastore, 1) := by decide +kernel
theorem dX6_move_180 : decode cX6_move 180 = .ok (.aload_n 0, 1) := by decide +kernel
theorem dX6_move_181 : decode cX6_move 181 = .ok (.iload 5, 2) := by decide +kernel
theorem dX6_move_183 : decode cX6_move 183 = .ok (.ifCond .ge 9, 3) := by decide +kernel
theorem dX6_move_186 : decode cX6_move 186 = .ok (.iload 5, 2) := by decide +kernel
theorem dX6_move_188 : decode cX6_move 188 = .ok (.ineg, 1) := by decide +kernel
theorem dX6_move_189 : decode cX6_move 189 = .ok (.goto 5, 3) := by decide +kernel
theorem dX6_move_192 : decode cX6_move 192 = .ok (.iload 5, 2) := by decide +kernel
theorem dX6_move_194 : decode cX6_move 194 = .ok (.invokevirtual 71, 3) := by decide +kernel
theorem dX6_move_197 : decode cX6_move 197 = .ok (.ireturn, 1) := by decide +kernel
theorem dX6_cancels_0 : decode cX6_cancels 0 = .ok (.aload_n 0, 1) := by decide +kernel
theorem dX6_cancels_1 : decode cX6_cancels 1 = .ok (.iload_n 1, 1) := by decide +kernel
theorem dX6_cancels_2 : decode cX6_cancels 2 = .ok (.bipush 7, 2) := by decide +kernel
theorem dX6_cancels_4 : decode cX6_cancels 4 = .ok (.invokevirtual 89, 3) := by decide +kernel
theorem dX6_cancels_7 : decode cX6_cancels 7 = .ok (.istore_n 2, 1) := by decide +kernel
theorem dX6_cancels_8 : decode cX6_cancels 8 = .ok (.aload_n 0, 1) := by decide +kernel
theorem dX6_cancels_9 : decode cX6_cancels 9 = .ok (.getfield 9, 3) := by decide +kernel
theorem dX6_cancels_12 : decode cX6_cancels 12 = .ok (.sipush 158, 3) := by decide +kernel
theorem dX6_cancels_15 : decode cX6_cancels 15 = .ok (.bipush 9, 2) := by decide +kernel
theorem dX6_cancels_17 : decode cX6_cancels 17 = .ok (.iload_n 1, 1) := by decide +kernel
theorem dX6_cancels_18 : decode cX6_cancels 18 = .ok (.imul, 1) := by decide +kernel
theorem dX6_cancels_19 : decode cX6_cancels 19 = .ok (.iadd, 1) := by decide +kernel
theorem dX6_cancels_20 : decode cX6_cancels 20 = .ok (.bipush 8, 2) := by decide +kernel
theorem dX6_cancels_22 : decode cX6_cancels 22 = .ok (.iadd, 1) := by decide +kernel
theorem dX6_cancels_23 : decode cX6_cancels 23 = .ok (.iconst 1, 1) := by decide +kernel
theorem dX6_cancels_24 : decode cX6_cancels 24 = .ok (.iastore, 1) := by decide +kernel
theorem dX6_cancels_25 : decode cX6_cancels 25 = .ok (.aload_n 0, 1) := by decide +kernel
theorem dX6_cancels_26 : decode cX6_cancels 26 = .ok (.getfield 9, 3) := by decide +kernel
theorem dX6_cancels_29 : decode cX6_cancels 29 = .ok (.sipush 158, 3) := by decide +kernel
theorem dX6_cancels_32 : decode cX6_cancels 32 = .ok (.bipush 9, 2) := by decide +kernel
theorem dX6_cancels_34 : decode cX6_cancels 34 = .ok (.iload_n 1, 1) := by decide +kernel
theorem dX6_cancels_35 : decode cX6_cancels 35 = .ok (.imul, 1) := by decide +kernel
theorem dX6_cancels_36 : decode cX6_cancels 36 = .ok (.iadd, 1) := by decide +kernel
theorem dX6_cancels_37 : decode cX6_cancels 37 = .ok (.bipush 7, 2) := by decide +kernel
theorem dX6_cancels_39 : decode cX6_cancels 39 = .ok (.iadd, 1) := by decide +kernel
theorem dX6_cancels_40 : decode cX6_cancels 40 = .ok (.iconst 0, 1) := by decide +kernel
theorem dX6_cancels_41 : decode cX6_cancels 41 = .ok (.iastore, 1) := by decide +kernel
theorem dX6_cancels_42 : decode cX6_cancels 42 = .ok (.aload_n 0, 1) := by decide +kernel
theorem dX6_cancels_43 : decode cX6_cancels 43 = .ok (.getfield 9, 3) := by decide +kernel
theorem dX6_cancels_46 : decode cX6_cancels 46 = .ok (.iconst 5, 1) := by decide +kernel
theorem dX6_cancels_47 : decode cX6_cancels 47 = .ok (.dup2, 1) := by decide +kernel
theorem dX6_cancels_48 : decode cX6_cancels 48 = .ok (.iaload, 1) := by decide +kernel
theorem dX6_cancels_49 : decode cX6_cancels 49 = .ok (.iload_n 2, 1) := by decide +kernel
theorem dX6_cancels_50 : decode cX6_cancels 50 = .ok (.iadd, 1) := by decide +kernel
theorem dX6_cancels_51 : decode cX6_cancels 51 = .ok (.iastore, 1) := by decide +kernel
theorem dX6_cancels_52 : decode cX6_cancels 52 = .ok (.iload_n 2, 1) := by decide +kernel
theorem dX6_cancels_53 : decode cX6_cancels 53 = .ok (.ireturn, 1) := by decide +kernel
theorem dX6_cancel_0 : decode cX6_cancel 0 = .ok (.aload_n 0, 1) := by decide +kernel
theorem dX6_cancel_1 : decode cX6_cancel 1 = .ok (.iload_n 1, 1) := by decide +kernel
theorem dX6_cancel_2 : decode cX6_cancel 2 = .ok (.invokevirtual 203, 3) := by decide +kernel
theorem dX6_cancel_5 : decode cX6_cancel 5 = .ok (.ifCond .ne 9, 3) := by decide +kernel
theorem dX6_cancel_8 : decode cX6_cancel 8 = .ok (.aload_n 0, 1) := by decide +kernel
theorem dX6_cancel_9 : decode cX6_cancel 9 = .ok (.iconst 1, 1) := by decide +kernel
theorem dX6_cancel_10 : decode cX6_cancel 10 = .ok (.invokevirtual 45, 3) := by decide +kernel
theorem dX6_cancel_13 : decode cX6_cancel 13 = .ok (.ireturn, 1) := by decide +kernel
theorem dX6_cancel_14 : decode cX6_cancel 14 = .ok (.aload_n 0, 1) := by decide +kernel
theorem dX6_cancel_15 : decode cX6_cancel 15 = .ok (.iload_n 1, 1) := by decide +kernel
theorem dX6_cancel_16 : decode cX6_cancel 16 = .ok (.invokevirtual 107, 3) := by decide +kernel
theorem dX6_cancel_19 : decode cX6_cancel 19 = .ok (.ifCond .eq 11, 3) := by decide +kernel
theorem dX6_cancel_22 : decode cX6_cancel 22 = .ok (.aload_n 0, 1) := by decide +kernel
theorem dX6_cancel_23 : decode cX6_cancel 23 = .ok (.iload_n 1, 1) := by decide +kernel
theorem dX6_cancel_24 : decode cX6_cancel 24 = .ok (.invokevirtual 206, 3) := by decide +kernel
theorem dX6_cancel_27 : decode cX6_cancel 27 = .ok (.ifCond .eq 9, 3) := by decide +kernel
theorem dX6_cancel_30 : decode cX6_cancel 30 = .ok (.aload_n 0, 1) := by decide +kernel
theorem dX6_cancel_31 : decode cX6_cancel 31 = .ok (.iconst 2, 1) := by decide +kernel
theorem dX6_cancel_32 : decode cX6_cancel 32 = .ok (.invokevirtual 45, 3) := by decide +kernel
theorem dX6_cancel_35 : decode cX6_cancel 35 = .ok (.ireturn, 1) := by decide +kernel
theorem dX6_cancel_36 : decode cX6_cancel 36 = .ok (.aload_n 0, 1) := by decide +kernel
theorem dX6_cancel_37 : decode cX6_cancel 37 = .ok (.invokevirtual 68, 3) := by decide +kernel
theorem dX6_cancel_40 : decode cX6_cancel 40 = .ok (.aload_n 0, 1) := by decide +kernel
theorem dX6_cancel_41 : decode cX6_cancel 41 = .ok (.aload_n 0, 1) := by decide +kernel
theorem dX6_cancel_42 : decode cX6_cancel 42 = .ok (.iload_n 1, 1) := by decide +kernel
theorem dX6_cancel_43 : decode cX6_cancel 43 = .ok (.invokevirtual 209, 3) := by decide +kernel
theorem dX6_cancel_46 : decode cX6_cancel 46 = .ok (.invokevirtual 71, 3) := by decide +kernel
theorem dX6_cancel_49 : decode cX6_cancel 49 = .ok (.ireturn, 1) := by decide +kernel
theorem dX6_sell_0 : decode cX6_sell 0 = .ok (.aload_n 0, 1) := by decide +kernel
theorem dX6_sell_1 : decode cX6_sell 1 = .ok (.iload_n 1, 1) := by decide +kernel
theorem dX6_sell_2 : decode cX6_sell 2 = .ok (.invokevirtual 203, 3) := by decide +kernel
theorem dX6_sell_5 : decode cX6_sell 5 = .ok (.ifCond .ne 9, 3) := by decide +kernel
theorem dX6_sell_8 : decode cX6_sell 8 = .ok (.aload_n 0, 1) := by decide +kernel
theorem dX6_sell_9 : decode cX6_sell 9 = .ok (.iconst 1, 1) := by decide +kernel
theorem dX6_sell_10 : decode cX6_sell 10 = .ok (.invokevirtual 45, 3) := by decide +kernel
theorem dX6_sell_13 : decode cX6_sell 13 = .ok (.ireturn, 1) := by decide +kernel
theorem dX6_sell_14 : decode cX6_sell 14 = .ok (.iload_n 2, 1) := by decide +kernel
theorem dX6_sell_15 : decode cX6_sell 15 = .ok (.iconst 1, 1) := by decide +kernel
theorem dX6_sell_16 : decode cX6_sell 16 = .ok (.sipush 400, 3) := by decide +kernel
theorem dX6_sell_19 : decode cX6_sell 19 = .ok (.invokestatic 64, 3) := by decide +kernel
theorem dX6_sell_22 : decode cX6_sell 22 = .ok (.ifCond .ne 9, 3) := by decide +kernel
theorem dX6_sell_25 : decode cX6_sell 25 = .ok (.aload_n 0, 1) := by decide +kernel
theorem dX6_sell_26 : decode cX6_sell 26 = .ok (.iconst 2, 1) := by decide +kernel
theorem dX6_sell_27 : decode cX6_sell 27 = .ok (.invokevirtual 45, 3) := by decide +kernel
theorem dX6_sell_30 : decode cX6_sell 30 = .ok (.ireturn, 1) := by decide +kernel
theorem dX6_sell_31 : decode cX6_sell 31 = .ok (.aload_n 0, 1) := by decide +kernel
theorem dX6_sell_32 : decode cX6_sell 32 = .ok (.iload_n 1, 1) := by decide +kernel
theorem dX6_sell_33 : decode cX6_sell 33 = .ok (.invokevirtual 107, 3) := by decide +kernel
theorem dX6_sell_36 : decode cX6_sell 36 = .ok (.ifCond .eq 11, 3) := by decide +kernel
theorem dX6_sell_39 : decode cX6_sell 39 = .ok (.aload_n 0, 1) := by decide +kernel
theorem dX6_sell_40 : decode cX6_sell 40 = .ok (.iload_n 1, 1) := by decide +kernel
theorem dX6_sell_41 : decode cX6_sell 41 = .ok (.invokevirtual 206, 3) := by decide +kernel
theorem dX6_sell_44 : decode cX6_sell 44 = .ok (.ifCond .eq 9, 3) := by decide +kernel
theorem dX6_sell_47 : decode cX6_sell 47 = .ok (.aload_n 0, 1) := by decide +kernel
theorem dX6_sell_48 : decode cX6_sell 48 = .ok (.iconst 3, 1) := by decide +kernel
theorem dX6_sell_49 : decode cX6_sell 49 = .ok (.invokevirtual 45, 3) := by decide +kernel
theorem dX6_sell_52 : decode cX6_sell 52 = .ok (.ireturn, 1) := by decide +kernel
theorem dX6_sell_53 : decode cX6_sell 53 = .ok (.aload_n 0, 1) := by decide +kernel
theorem dX6_sell_54 : decode cX6_sell 54 = .ok (.aload_n 0, 1) := by decide +kernel
theorem dX6_sell_55 : decode cX6_sell 55 = .ok (.iload_n 1, 1) := by decide +kernel
theorem dX6_sell_56 : decode cX6_sell 56 = .ok (.iconst 0, 1) := by decide +kernel
theorem dX6_sell_57 : decode cX6_sell 57 = .ok (.invokevirtual 89, 3) := by decide +kernel
theorem dX6_sell_60 : decode cX6_sell 60 = .ok (.iconst 0, 1) := by decide +kernel
theorem dX6_sell_61 : decode cX6_sell 61 = .ok (.invokevirtual 95, 3) := by decide +kernel
theorem dX6_sell_64 : decode cX6_sell 64 = .ok (.aload_n 0, 1) := by decide +kernel
theorem dX6_sell_65 : decode cX6_sell 65 = .ok (.iload_n 1, 1) := by decide +kernel
theorem dX6_sell_66 : decode cX6_sell 66 = .ok (.bipush 7, 2) := by decide +kernel
theorem dX6_sell_68 : decode cX6_sell 68 = .ok (.invokevirtual 89, 3) := by decide +kernel
theorem dX6_sell_71 : decode cX6_sell 71 = .ok (.isub, 1) := by decide +kernel
theorem dX6_sell_72 : decode cX6_sell 72 = .ok (.istore_n 3, 1) := by decide +kernel
theorem dX6_sell_73 : decode cX6_sell 73 = .ok (.iload_n 3, 1) := by decide +kernel
theorem dX6_sell_74 : decode cX6_sell 74 = .ok (.iload_n 2, 1) := by decide +kernel
theorem dX6_sell_75 : decode cX6_sell 75 = .ok (.if_icmp .ge 12, 3) := by decide +kernel
theorem dX6_sell_78 : decode cX6_sell 78 = .ok (.aload_n 0, 1) := by decide +kernel
theorem dX6_sell_79 : decode cX6_sell 79 = .ok (.bipush 12, 2) := by decide +kernel
theorem dX6_sell_81 : decode cX6_sell 81 = .ok (.iload_n 3, 1) := by decide +kernel
theorem dX6_sell_82 : decode cX6_sell 82 = .ok (.iconst 4, 1) := by decide +kernel
theorem dX6_sell_83 : decode cX6_sell 83 = .ok (.invokevirtual 199, 3) := by decide +kernel
theorem dX6_sell_86 : decode cX6_sell 86 = .ok (.ireturn, 1) := by decide +kernel
theorem dX6_sell_87 : decode cX6_sell 87 = .ok (.aload_n 0, 1) := by decide +kernel
theorem dX6_sell_88 : decode cX6_sell 88 = .ok (.invokevirtual 68, 3) := by decide +kernel
theorem dX6_sell_91 : decode cX6_sell 91 = .ok (.aload_n 0, 1) := by decide +kernel
theorem dX6_sell_92 : decode cX6_sell 92 = .ok (.getfield 9, 3) := by decide +kernel
theorem dX6_sell_95 : decode cX6_sell 95 = .ok (.sipush 158, 3) := by decide +kernel
theorem dX6_sell_98 : decode cX6_sell 98 = .ok (.bipush 9, 2) := by decide +kernel
theorem dX6_sell_100 : decode cX6_sell 100 = .ok (.iload_n 1, 1) := by decide +kernel
theorem dX6_sell_101 : decode cX6_sell 101 = .ok (.imul, 1) := by decide +kernel
theorem dX6_sell_102 : decode cX6_sell 102 = .ok (.iadd, 1) := by decide +kernel
theorem dX6_sell_103 : decode cX6_sell 103 = .ok (.bipush 7, 2) := by decide +kernel
theorem dX6_sell_105 : decode cX6_sell 105 = .ok (.iadd, 1) := by decide +kernel
theorem dX6_sell_106 : decode cX6_sell 106 = .ok (.dup2, 1) := by decide +kernel
theorem dX6_sell_107 : decode cX6_sell 107 = .ok (.iaload, 1) := by decide +kernel
theorem dX6_sell_108 : decode cX6_sell 108 = .ok (.iload_n 2, 1) := by decide +kernel
theorem dX6_sell_109 : decode cX6_sell 109 = .ok (.iadd, 1) := by decide +kernel
theorem dX6_sell_110 : decode cX6_sell 110 = .ok (.iastore, 1) := by decide +kernel
theorem dX6_sell_111 : decode cX6_sell 111 = .ok (.aload_n 0, 1) := by decide +kernel
theorem dX6_sell_112 : decode cX6_sell 112 = .ok (.aload_n 0, 1) := by decide +kernel
theorem dX6_sell_113 : decode cX6_sell 113 = .ok (.iload_n 1, 1) := by decide +kernel
theorem dX6_sell_114 : decode cX6_sell 114 = .ok (.bipush 7, 2) := by decide +kernel
theorem dX6_sell_116 : decode cX6_sell 116 = .ok (.invokevirtual 89, 3) := by decide +kernel
theorem dX6_sell_119 : decode cX6_sell 119 = .ok (.invokevirtual 71, 3) := by decide +kernel
theorem dX6_sell_122 : decode cX6_sell 122 = .ok (.ireturn, 1) := by decide +kernel
theorem dX6_show_0 : decode cX6_show 0 = .ok (.aload_n 0, 1) := by decide +kernel
theorem dX6_show_1 : decode cX6_show 1 = .ok (.iload_n 1, 1) := by decide +kernel
theorem dX6_show_2 : decode cX6_show 2 = .ok (.invokevirtual 203, 3) := by decide +kernel
theorem dX6_show_5 : decode cX6_show 5 = .ok (.ifCond .ne 9, 3) := by decide +kernel
theorem dX6_show_8 : decode cX6_show 8 = .ok (.aload_n 0, 1) := by decide +kernel
theorem dX6_show_9 : decode cX6_show 9 = .ok (.iconst 1, 1) := by decide +kernel
theorem dX6_show_10 : decode cX6_show 10 = .ok (.invokevirtual 45, 3) := by decide +kernel
theorem dX6_show_13 : decode cX6_show 13 = .ok (.ireturn, 1) := by decide +kernel
theorem dX6_show_14 : decode cX6_show 14 = .ok (.iload_n 2, 1) := by decide +kernel
theorem dX6_show_15 : decode cX6_show 15 = .ok (.iconst 0, 1) := by decide +kernel
theorem dX6_show_16 : decode cX6_show 16 = .ok (.bipush 11, 2) := by decide +kernel
theorem dX6_show_18 : decode cX6_show 18 = .ok (.invokestatic 64, 3) := by decide +kernel
theorem dX6_show_21 : decode cX6_show 21 = .ok (.ifCond .ne 9, 3) := by decide +kernel
theorem dX6_show_24 : decode cX6_show 24 = .ok (.aload_n 0, 1) := by decide +kernel
theorem dX6_show_25 : decode cX6_show 25 = .ok (.iconst 2, 1) := by decide +kernel
theorem dX6_show_26 : decode cX6_show 26 = .ok (.invokevirtual 45, 3) := by decide +kernel
theorem dX6_show_29 : decode cX6_show 29 = .ok (.ireturn, 1) := by decide +kernel
theorem dX6_show_30 : decode cX6_show 30 = .ok (.iload_n 2, 1) := by decide +kernel
theorem dX6_show_31 : decode cX6_show 31 = .ok (.tableswitch 151 4 11 #[45, 55, 67, 78, 90, 120, 130, 140], 45) := by decide +kernel
theorem dX6_show_76 : decode cX6_show 76 = .ok (.aload_n 0, 1) := by decide +kernel
theorem dX6_show_77 : decode cX6_show 77 = .ok (.aload_n 0, 1) := by decide +kernel
theorem dX6_show_78 : decode cX6_show 78 = .ok (.iload_n 1, 1) := by decide +kernel
theorem dX6_show_79 : decode cX6_show 79 = .ok (.invokevirtual 151, 3) := by decide +kernel
theorem dX6_show_82 : decode cX6_show 82 = .ok (.invokevirtual 71, 3) := by decide +kernel
theorem dX6_show_85 : decode cX6_show 85 = .ok (.ireturn, 1) := by decide +kernel
theorem dX6_show_86 : decode cX6_show 86 = .ok (.aload_n 0, 1) := by decide +kernel
theorem dX6_show_87 : decode cX6_show 87 = .ok (.aload_n 0, 1) := by decide +kernel
theorem dX6_show_88 : decode cX6_show 88 = .ok (.iload_n 1, 1) := by decide +kernel
theorem dX6_show_89 : decode cX6_show 89 = .ok (.bipush 7, 2) := by decide +kernel
theorem dX6_show_91 : decode cX6_show 91 = .ok (.invokevirtual 89, 3) := by decide +kernel
theorem dX6_show_94 : decode cX6_show 94 = .ok (.invokevirtual 71, 3) := by decide +kernel
theorem dX6_show_97 : decode cX6_show 97 = .ok (.ireturn, 1) := by decide +kernel
theorem dX6_show_98 : decode cX6_show 98 = .ok (.aload_n 0, 1) := by decide +kernel
theorem dX6_show_99 : decode cX6_show 99 = .ok (.aload_n 0, 1) := by decide +kernel
theorem dX6_show_100 : decode cX6_show 100 = .ok (.iload_n 1, 1) := by decide +kernel
theorem dX6_show_101 : decode cX6_show 101 = .ok (.iconst 4, 1) := by decide +kernel
theorem dX6_show_102 : decode cX6_show 102 = .ok (.invokevirtual 89, 3) := by decide +kernel
theorem dX6_show_105 : decode cX6_show 105 = .ok (.invokevirtual 71, 3) := by decide +kernel
theorem dX6_show_108 : decode cX6_show 108 = .ok (.ireturn, 1) := by decide +kernel
theorem dX6_show_109 : decode cX6_show 109 = .ok (.aload_n 0, 1) := by decide +kernel
theorem dX6_show_110 : decode cX6_show 110 = .ok (.aload_n 0, 1) := by decide +kernel
theorem dX6_show_111 : decode cX6_show 111 = .ok (.iload_n 1, 1) := by decide +kernel
theorem dX6_show_112 : decode cX6_show 112 = .ok (.bipush 6, 2) := by decide +kernel
theorem dX6_show_114 : decode cX6_show 114 = .ok (.invokevirtual 89, 3) := by decide +kernel
theorem dX6_show_117 : decode cX6_show 117 = .ok (.invokevirtual 71, 3) := by decide +kernel
theorem dX6_show_120 : decode cX6_show 120 = .ok (.ireturn, 1) := by decide +kernel
theorem dX6_show_121 : decode cX6_show 121 = .ok (.aload_n 0, 1) := by decide +kernel
theorem dX6_show_122 : decode cX6_show 122 = .ok (.aload_n 0, 1) := by decide +kernel
theorem dX6_show_123 : decode cX6_show 123 = .ok (.iload_n 1, 1) := by decide +kernel
theorem dX6_show_124 : decode cX6_show 124 = .ok (.invokevirtual 107, 3) := by decide +kernel
theorem dX6_show_127 : decode cX6_show 127 = .ok (.ifCond .ne 7, 3) := by decide +kernel
theorem dX6_show_130 : decode cX6_show 130 = .ok (.iconst 1, 1) := by decide +kernel
theorem dX6_show_131 : decode cX6_show 131 = .ok (.goto 16, 3) := by decide +kernel
theorem dX6_show_134 : decode cX6_show 134 = .ok (.aload_n 0, 1) := by decide +kernel
theorem dX6_show_135 : decode cX6_show 135 = .ok (.iload_n 1, 1) := by decide +kernel
theorem dX6_show_136 : decode cX6_show 136 = .ok (.invokevirtual 206, 3) := by decide +kernel
theorem dX6_show_139 : decode cX6_show 139 = .ok (.ifCond .eq 7, 3) := by decide +kernel
theorem dX6_show_142 : decode cX6_show 142 = .ok (.iconst 2, 1) := by decide +kernel
theorem dX6_show_143 : decode cX6_show 143 = .ok (.goto 4, 3) := by decide +kernel
theorem dX6_show_146 : decode cX6_show 146 = .ok (.iconst 0, 1) := by decide +kernel
theorem dX6_show_147 : decode cX6_show 147 = .ok (.invokevirtual 71, 3) := by decide +kernel
theorem dX6_show_150 : decode cX6_show 150 = .ok (.ireturn, 1) := by decide +kernel
theorem dX6_show_151 : decode cX6_show 151 = .ok (.aload_n 0, 1) := by decide +kernel
theorem dX6_show_152 : decode cX6_show 152 = .ok (.aload_n 0, 1) := by decide +kernel
theorem dX6_show_153 : decode cX6_show 153 = .ok (.iload_n 1, 1) := by decide +kernel
theorem dX6_show_154 : decode cX6_show 154 = .ok (.invokevirtual 98, 3) := by decide +kernel
theorem dX6_show_157 : decode cX6_show 157 = .ok (.invokevirtual 71, 3) := by decide +kernel
theorem dX6_show_160 : decode cX6_show 160 = .ok (.ireturn, 1) := by decide +kernel
theorem dX6_show_161 : decode cX6_show 161 = .ok (.aload_n 0, 1) := by decide +kernel
theorem dX6_show_162 : decode cX6_show 162 = .ok (.aload_n 0, 1) := by decide +kernel
theorem dX6_show_163 : decode cX6_show 163 = .ok (.iload_n 1, 1) := by decide +kernel
theorem dX6_show_164 : decode cX6_show 164 = .ok (.invokevirtual 110, 3) := by decide +kernel
theorem dX6_show_167 : decode cX6_show 167 = .ok (.invokevirtual 71, 3) := by decide +kernel
theorem dX6_show_170 : decode cX6_show 170 = .ok (.ireturn, 1) := by decide +kernel
theorem dX6_show_171 : decode cX6_show 171 = .ok (.aload_n 0, 1) := by decide +kernel
theorem dX6_show_172 : decode cX6_show 172 = .ok (.aload_n 0, 1) := by decide +kernel
theorem dX6_show_173 : decode cX6_show 173 = .ok (.iload_n 1, 1) := by decide +kernel
theorem dX6_show_174 : decode cX6_show 174 = .ok (.iconst 5, 1) := by decide +kernel
theorem dX6_show_175 : decode cX6_show 175 = .ok (.invokevirtual 89, 3) := by decide +kernel
theorem dX6_show_178 : decode cX6_show 178 = .ok (.invokevirtual 71, 3) := by decide +kernel
theorem dX6_show_181 : decode cX6_show 181 = .ok (.ireturn, 1) := by decide +kernel
theorem dX6_show_182 : decode cX6_show 182 = .ok (.aload_n 0, 1) := by decide +kernel
theorem dX6_show_183 : decode cX6_show 183 = .ok (.aload_n 0, 1) := by decide +kernel
theorem dX6_show_184 : decode cX6_show 184 = .ok (.iload_n 1, 1) := by decide +kernel
theorem dX6_show_185 : decode cX6_show 185 = .ok (.iload_n 2, 1) := by decide +kernel
theorem dX6_show_186 : decode cX6_show 186 = .ok (.invokevirtual 89, 3) := by decide +kernel
theorem dX6_show_189 : decode cX6_show 189 = .ok (.invokevirtual 71, 3) := by decide +kernel
theorem dX6_show_192 : decode cX6_show 192 = .ok (.ireturn, 1) := by decide +kernel
theorem dX6_why_0 : decode cX6_why 0 = .ok (.aload_n 0, 1) := by decide +kernel
theorem dX6_why_1 : decode cX6_why 1 = .ok (.iload_n 1, 1) := by decide +kernel
theorem dX6_why_2 : decode cX6_why 2 = .ok (.invokevirtual 104, 3) := by decide +kernel
theorem dX6_why_5 : decode cX6_why 5 = .ok (.ifCond .eq 11, 3) := by decide +kernel
theorem dX6_why_8 : decode cX6_why 8 = .ok (.aload_n 0, 1) := by decide +kernel
theorem dX6_why_9 : decode cX6_why 9 = .ok (.iload_n 2, 1) := by decide +kernel
theorem dX6_why_10 : decode cX6_why 10 = .ok (.invokevirtual 78, 3) := by decide +kernel
theorem dX6_why_13 : decode cX6_why 13 = .ok (.ifCond .ne 9, 3) := by decide +kernel
theorem dX6_why_16 : decode cX6_why 16 = .ok (.aload_n 0, 1) := by decide +kernel
theorem dX6_why_17 : decode cX6_why 17 = .ok (.iconst 1, 1) := by decide +kernel
theorem dX6_why_18 : decode cX6_why 18 = .ok (.invokevirtual 45, 3) := by decide +kernel
theorem dX6_why_21 : decode cX6_why 21 = .ok (.ireturn, 1) := by decide +kernel
theorem dX6_why_22 : decode cX6_why 22 = .ok (.iload_n 3, 1) := by decide +kernel
theorem dX6_why_23 : decode cX6_why 23 = .ok (.iload 4, 2) := by decide +kernel
theorem dX6_why_25 : decode cX6_why 25 = .ok (.invokestatic 192, 3) := by decide +kernel
theorem dX6_why_28 : decode cX6_why 28 = .ok (.ifCond .ne 9, 3) := by decide +kernel
theorem dX6_why_31 : decode cX6_why 31 = .ok (.aload_n 0, 1) := by decide +kernel
theorem dX6_why_32 : decode cX6_why 32 = .ok (.iconst 2, 1) := by decide +kernel
theorem dX6_why_33 : decode cX6_why 33 = .ok (.invokevirtual 45, 3) := by decide +kernel
theorem dX6_why_36 : decode cX6_why 36 = .ok (.ireturn, 1) := by decide +kernel
theorem dX6_why_37 : decode cX6_why 37 = .ok (.aload_n 0, 1) := by decide +kernel
theorem dX6_why_38 : decode cX6_why 38 = .ok (.iload_n 1, 1) := by decide +kernel
theorem dX6_why_39 : decode cX6_why 39 = .ok (.iload_n 2, 1) := by decide +kernel
theorem dX6_why_40 : decode cX6_why 40 = .ok (.iload_n 3, 1) := by decide +kernel
theorem dX6_why_41 : decode cX6_why 41 = .ok (.iload 4, 2) := by decide +kernel
theorem dX6_why_43 : decode cX6_why 43 = .ok (.invokevirtual 195, 3) := by decide +kernel
theorem dX6_why_46 : decode cX6_why 46 = .ok (.istore 6, 2) := by decide +kernel
theorem dX6_why_48 : decode cX6_why 48 = .ok (.aload_n 0, 1) := by decide +kernel
theorem dX6_why_49 : decode cX6_why 49 = .ok (.iload 5, 2) := by decide +kernel
theorem dX6_why_51 : decode cX6_why 51 = .ok (.ifCond .eq 10, 3) := by decide +kernel
theorem dX6_why_54 : decode cX6_why 54 = .ok (.aload_n 0, 1) := by decide +kernel
theorem dX6_why_55 : decode cX6_why 55 = .ok (.getfield 166, 3) := by decide +kernel
theorem dX6_why_58 : decode cX6_why 58 = .ok (.goto 5, 3) := by decide +kernel
theorem dX6_why_61 : decode cX6_why 61 = .ok (.iload 6, 2) := by decide +kernel
theorem dX6_why_63 : decode cX6_why 63 = .ok (.invokevirtual 71, 3) := by decide +kernel
theorem dX6_why_66 : decode cX6_why 66 = .ok (.ireturn, 1) := by decide +kernel
theorem dX6_firstStart_0 : decode cX6_firstStart 0 = .ok (.aload_n 0, 1) := by decide +kernel
theorem dX6_firstStart_1 : decode cX6_firstStart 1 = .ok (.iload_n 1, 1) := by decide +kernel
theorem dX6_firstStart_2 : decode cX6_firstStart 2 = .ok (.invokevirtual 104, 3) := by decide +kernel
theorem dX6_firstStart_5 : decode cX6_firstStart 5 = .ok (.ifCond .eq 11, 3) := by decide +kernel
theorem dX6_firstStart_8 : decode cX6_firstStart 8 = .ok (.aload_n 0, 1) := by decide +kernel
theorem dX6_firstStart_9 : decode cX6_firstStart 9 = .ok (.iload_n 2, 1) := by decide +kernel
theorem dX6_firstStart_10 : decode cX6_firstStart 10 = .ok (.invokevirtual 78, 3) := by decide +kernel
theorem dX6_firstStart_13 : decode cX6_firstStart 13 = .ok (.ifCond .ne 9, 3) := by decide +kernel
theorem dX6_firstStart_16 : decode cX6_firstStart 16 = .ok (.aload_n 0, 1) := by decide +kernel
theorem dX6_firstStart_17 : decode cX6_firstStart 17 = .ok (.iconst 1, 1) := by decide +kernel
theorem dX6_firstStart_18 : decode cX6_firstStart 18 = .ok (.invokevirtual 45, 3) := by decide +kernel
theorem dX6_firstStart_21 : decode cX6_firstStart 21 = .ok (.ireturn, 1) := by decide +kernel
theorem dX6_firstStart_22 : decode cX6_firstStart 22 = .ok (.iload_n 3, 1) := by decide +kernel
theorem dX6_firstStart_23 : decode cX6_firstStart 23 = .ok (.iload 4, 2) := by decide +kernel
theorem dX6_firstStart_25 : decode cX6_firstStart 25 = .ok (.invokestatic 192, 3) := by decide +kernel
theorem dX6_firstStart_28 : decode cX6_firstStart 28 = .ok (.ifCond .ne 9, 3) := by decide +kernel
theorem dX6_firstStart_31 : decode cX6_firstStart 31 = .ok (.aload_n 0, 1) := by decide +kernel
theorem dX6_firstStart_32 : decode cX6_firstStart 32 = .ok (.iconst 2, 1) := by decide +kernel
theorem dX6_firstStart_33 : decode cX6_firstStart 33 = .ok (.invokevirtual 45, 3) := by decide +kernel
theorem dX6_firstStart_36 : decode cX6_firstStart 36 = .ok (.ireturn, 1) := by decide +kernel
theorem dX6_firstStart_37 : decode cX6_firstStart 37 = .ok (.aload_n 0, 1) := by decide +kernel
theorem dX6_firstStart_38 : decode cX6_firstStart 38 = .ok (.aload_n 0, 1) := by decide +kernel
theorem dX6_firstStart_39 : decode cX6_firstStart 39 = .ok (.iload_n 2, 1) := by decide +kernel
theorem dX6_firstStart_40 : decode cX6_firstStart 40 = .ok (.iload_n 3, 1) := by decide +kernel
theorem dX6_firstStart_41 : decode cX6_firstStart 41 = .ok (.invokevirtual 130, 3) := by decide +kernel
theorem dX6_firstStart_44 : decode cX6_firstStart 44 = .ok (.invokevirtual 119, 3) := by decide +kernel
theorem dX6_firstStart_47 : decode cX6_firstStart 47 = .ok (.aload_n 0, 1) := by decide +kernel
theorem dX6_firstStart_48 : decode cX6_firstStart 48 = .ok (.iload_n 2, 1) := by decide +kernel
theorem dX6_firstStart_49 : decode cX6_firstStart 49 = .ok (.iconst 0, 1) := by decide +kernel
theorem dX6_firstStart_50 : decode cX6_firstStart 50 = .ok (.invokevirtual 81, 3) := by decide +kernel
theorem dX6_firstStart_53 : decode cX6_firstStart 53 = .ok (.iadd, 1) := by decide +kernel
theorem dX6_firstStart_54 : decode cX6_firstStart 54 = .ok (.istore 5, 2) := by decide +kernel
theorem dX6_firstStart_56 : decode cX6_firstStart 56 = .ok (.iload 4, 2) := by decide +kernel
theorem dX6_firstStart_58 : decode cX6_firstStart 58 = .ok (.istore 6, 2) := by decide +kernel
theorem dX6_firstStart_60 : decode cX6_firstStart 60 = .ok (.iload 6, 2) := by decide +kernel
theorem dX6_firstStart_62 : decode cX6_firstStart 62 = .ok (.sipush 960, 3) := by decide +kernel
theorem dX6_firstStart_65 : decode cX6_firstStart 65 = .ok (.if_icmp .ge 31, 3) := by decide +kernel
theorem dX6_firstStart_68 : decode cX6_firstStart 68 = .ok (.aload_n 0, 1) := by decide +kernel
theorem dX6_firstStart_69 : decode cX6_firstStart 69 = .ok (.iload_n 1, 1) := by decide +kernel
theorem dX6_firstStart_70 : decode cX6_firstStart 70 = .ok (.iload_n 2, 1) := by decide +kernel
theorem dX6_firstStart_71 : decode cX6_firstStart 71 = .ok (.iload_n 3, 1) := by decide +kernel
theorem dX6_firstStart_72 : decode cX6_firstStart 72 = .ok (.iload 6, 2) := by decide +kernel
theorem dX6_firstStart_74 : decode cX6_firstStart 74 = .ok (.iload 5, 2) := by decide +kernel
theorem dX6_firstStart_76 : decode cX6_firstStart 76 = .ok (.iconst (-1), 1) := by decide +kernel
theorem dX6_firstStart_77 : decode cX6_firstStart 77 = .ok (.invokevirtual 188, 3) := by decide +kernel
theorem dX6_firstStart_80 : decode cX6_firstStart 80 = .ok (.ifCond .ne 10, 3) := by decide +kernel
theorem dX6_firstStart_83 : decode cX6_firstStart 83 = .ok (.aload_n 0, 1) := by decide +kernel
theorem dX6_firstStart_84 : decode cX6_firstStart 84 = .ok (.iload 6, 2) := by decide +kernel
theorem dX6_firstStart_86 : decode cX6_firstStart 86 = .ok (.invokevirtual 71, 3) := by decide +kernel
theorem dX6_firstStart_89 : decode cX6_firstStart 89 = .ok (.ireturn, 1) := by decide +kernel
theorem dX6_firstStart_90 : decode cX6_firstStart 90 = .ok (.iinc 6 1, 3) := by decide +kernel
theorem dX6_firstStart_93 : decode cX6_firstStart 93 = .ok (.goto (-33), 3) := by decide +kernel
theorem dX6_firstStart_96 : decode cX6_firstStart 96 = .ok (.aload_n 0, 1) := by decide +kernel
theorem dX6_firstStart_97 : decode cX6_firstStart 97 = .ok (.iconst 3, 1) := by decide +kernel
theorem dX6_firstStart_98 : decode cX6_firstStart 98 = .ok (.invokevirtual 45, 3) := by decide +kernel
theorem dX6_firstStart_101 : decode cX6_firstStart 101 = .ok (.ireturn, 1) := by decide +kernel
theorem dX6_findsAt_0 : decode cX6_findsAt 0 = .ok (.iconst 0, 1) := by decide +kernel
theorem dX6_findsAt_1 : decode cX6_findsAt 1 = .ok (.istore_n 3, 1) := by decide +kernel
theorem dX6_findsAt_2 : decode cX6_findsAt 2 = .ok (.iload_n 3, 1) := by decide +kernel
theorem dX6_findsAt_3 : decode cX6_findsAt 3 = .ok (.aload_n 0, 1) := by decide +kernel
theorem dX6_findsAt_4 : decode cX6_findsAt 4 = .ok (.getfield 9, 3) := by decide +kernel
theorem dX6_findsAt_7 : decode cX6_findsAt 7 = .ok (.iconst 1, 1) := by decide +kernel
theorem dX6_findsAt_8 : decode cX6_findsAt 8 = .ok (.iaload, 1) := by decide +kernel
theorem dX6_findsAt_9 : decode cX6_findsAt 9 = .ok (.if_icmp .ge 97, 3) := by decide +kernel
theorem dX6_findsAt_12 : decode cX6_findsAt 12 = .ok (.iload_n 2, 1) := by decide +kernel
theorem dX6_findsAt_13 : decode cX6_findsAt 13 = .ok (.iconst 0, 1) := by decide +kernel
theorem dX6_findsAt_14 : decode cX6_findsAt 14 = .ok (.sipush 959, 3) := by decide +kernel
theorem dX6_findsAt_17 : decode cX6_findsAt 17 = .ok (.invokestatic 64, 3) := by decide +kernel
theorem dX6_findsAt_20 : decode cX6_findsAt 20 = .ok (.ifCond .eq 86, 3) := by decide +kernel
theorem dX6_findsAt_23 : decode cX6_findsAt 23 = .ok (.iload_n 3, 1) := by decide +kernel
theorem dX6_findsAt_24 : decode cX6_findsAt 24 = .ok (.aload_n 0, 1) := by decide +kernel
theorem dX6_findsAt_25 : decode cX6_findsAt 25 = .ok (.iload_n 1, 1) := by decide +kernel
theorem dX6_findsAt_26 : decode cX6_findsAt 26 = .ok (.iconst 0, 1) := by decide +kernel
theorem dX6_findsAt_27 : decode cX6_findsAt 27 = .ok (.invokevirtual 89, 3) := by decide +kernel
theorem dX6_findsAt_30 : decode cX6_findsAt 30 = .ok (.if_icmp .eq 23, 3) := by decide +kernel
theorem dX6_findsAt_33 : decode cX6_findsAt 33 = .ok (.aload_n 0, 1) := by decide +kernel
theorem dX6_findsAt_34 : decode cX6_findsAt 34 = .ok (.iload_n 3, 1) := by decide +kernel
theorem dX6_findsAt_35 : decode cX6_findsAt 35 = .ok (.iconst 0, 1) := by decide +kernel
theorem dX6_findsAt_36 : decode cX6_findsAt 36 = .ok (.invokevirtual 95, 3) := by decide +kernel
theorem dX6_findsAt_39 : decode cX6_findsAt 39 = .ok (.aload_n 0, 1) := by decide +kernel
theorem dX6_findsAt_40 : decode cX6_findsAt 40 = .ok (.iload_n 1, 1) := by decide +kernel
theorem dX6_findsAt_41 : decode cX6_findsAt 41 = .ok (.bipush 7, 2) := by decide +kernel
theorem dX6_findsAt_43 : decode cX6_findsAt 43 = .ok (.invokevirtual 89, 3) := by decide +kernel
theorem dX6_findsAt_46 : decode cX6_findsAt 46 = .ok (.if_icmp .lt 7, 3) := by decide +kernel
theorem dX6_findsAt_49 : decode cX6_findsAt 49 = .ok (.iconst 1, 1) := by decide +kernel
theorem dX6_findsAt_50 : decode cX6_findsAt 50 = .ok (.goto 4, 3) := by decide +kernel
theorem dX6_findsAt_53 : decode cX6_findsAt 53 = .ok (.iconst 0, 1) := by decide +kernel
theorem dX6_findsAt_54 : decode cX6_findsAt 54 = .ok (.istore 4, 2) := by decide +kernel
theorem dX6_findsAt_56 : decode cX6_findsAt 56 = .ok (.iload 4, 2) := by decide +kernel
theorem dX6_findsAt_58 : decode cX6_findsAt 58 = .ok (.ifCond .eq 42, 3) := by decide +kernel
theorem dX6_findsAt_61 : decode cX6_findsAt 61 = .ok (.aload_n 0, 1) := by decide +kernel
theorem dX6_findsAt_62 : decode cX6_findsAt 62 = .ok (.iload_n 3, 1) := by decide +kernel
theorem dX6_findsAt_63 : decode cX6_findsAt 63 = .ok (.aload_n 0, 1) := by decide +kernel
theorem dX6_findsAt_64 : decode cX6_findsAt 64 = .ok (.iload_n 1, 1) := by decide +kernel
theorem dX6_findsAt_65 : decode cX6_findsAt 65 = .ok (.iconst 1, 1) := by decide +kernel
theorem dX6_findsAt_66 : decode cX6_findsAt 66 = .ok (.invokevirtual 89, 3) := by decide +kernel
theorem dX6_findsAt_69 : decode cX6_findsAt 69 = .ok (.aload_n 0, 1) := by decide +kernel
theorem dX6_findsAt_70 : decode cX6_findsAt 70 = .ok (.iload_n 1, 1) := by decide +kernel
theorem dX6_findsAt_71 : decode cX6_findsAt 71 = .ok (.iconst 2, 1) := by decide +kernel
theorem dX6_findsAt_72 : decode cX6_findsAt 72 = .ok (.invokevirtual 89, 3) := by decide +kernel
theorem dX6_findsAt_75 : decode cX6_findsAt 75 = .ok (.iload_n 2, 1) := by decide +kernel
theorem dX6_findsAt_76 : decode cX6_findsAt 76 = .ok (.aload_n 0, 1) := by decide +kernel
theorem dX6_findsAt_77 : decode cX6_findsAt 77 = .ok (.iload_n 1, 1) := by decide +kernel
theorem dX6_findsAt_78 : decode cX6_findsAt 78 = .ok (.invokevirtual 92, 3) := by decide +kernel
theorem dX6_findsAt_81 : decode cX6_findsAt 81 = .ok (.iload_n 1, 1) := by decide +kernel
theorem dX6_findsAt_82 : decode cX6_findsAt 82 = .ok (.invokevirtual 188, 3) := by decide +kernel
theorem dX6_findsAt_85 : decode cX6_findsAt 85 = .ok (.ifCond .ne 15, 3) := by decide +kernel
theorem dX6_findsAt_88 : decode cX6_findsAt 88 = .ok (.aload_n 0, 1) := by decide +kernel
theorem dX6_findsAt_89 : decode cX6_findsAt 89 = .ok (.iload_n 3, 1) := by decide +kernel
theorem dX6_findsAt_90 : decode cX6_findsAt 90 = .ok (.putfield 212, 3) := by decide +kernel
theorem dX6_findsAt_93 : decode cX6_findsAt 93 = .ok (.aload_n 0, 1) := by decide +kernel
theorem dX6_findsAt_94 : decode cX6_findsAt 94 = .ok (.iload_n 2, 1) := by decide +kernel
theorem dX6_findsAt_95 : decode cX6_findsAt 95 = .ok (.putfield 215, 3) := by decide +kernel
theorem dX6_findsAt_98 : decode cX6_findsAt 98 = .ok (.iconst 1, 1) := by decide +kernel
theorem dX6_findsAt_99 : decode cX6_findsAt 99 = .ok (.ireturn, 1) := by decide +kernel
theorem dX6_findsAt_100 : decode cX6_findsAt 100 = .ok (.iinc 3 1, 3) := by decide +kernel
theorem dX6_findsAt_103 : decode cX6_findsAt 103 = .ok (.goto (-101), 3) := by decide +kernel
theorem dX6_findsAt_106 : decode cX6_findsAt 106 = .ok (.iconst 0, 1) := by decide +kernel
theorem dX6_findsAt_107 : decode cX6_findsAt 107 = .ok (.ireturn, 1) := by decide +kernel
theorem dX6_findsPlace_0 : decode cX6_findsPlace 0 = .ok (.aload_n 0, 1) := by decide +kernel
theorem dX6_findsPlace_1 : decode cX6_findsPlace 1 = .ok (.iload_n 1, 1) := by decide +kernel
theorem dX6_findsPlace_2 : decode cX6_findsPlace 2 = .ok (.iconst 3, 1) := by decide +kernel
theorem dX6_findsPlace_3 : decode cX6_findsPlace 3 = .ok (.invokevirtual 89, 3) := by decide +kernel
theorem dX6_findsPlace_6 : decode cX6_findsPlace 6 = .ok (.istore_n 2, 1) := by decide +kernel
theorem dX6_findsPlace_7 : decode cX6_findsPlace 7 = .ok (.iconst 0, 1) := by decide +kernel
theorem dX6_findsPlace_8 : decode cX6_findsPlace 8 = .ok (.istore_n 3, 1) := by decide +kernel
theorem dX6_findsPlace_9 : decode cX6_findsPlace 9 = .ok (.iconst 0, 1) := by decide +kernel
theorem dX6_findsPlace_10 : decode cX6_findsPlace 10 = .ok (.istore 4, 2) := by decide +kernel
theorem dX6_findsPlace_12 : decode cX6_findsPlace 12 = .ok (.iload 4, 2) := by decide +kernel
theorem dX6_findsPlace_14 : decode cX6_findsPlace 14 = .ok (.aload_n 0, 1) := by decide +kernel
theorem dX6_findsPlace_15 : decode cX6_findsPlace 15 = .ok (.getfield 9, 3) := by decide +kernel
theorem dX6_findsPlace_18 : decode cX6_findsPlace 18 = .ok (.bipush 12, 2) := by decide +kernel
theorem dX6_findsPlace_20 : decode cX6_findsPlace 20 = .ok (.iaload, 1) := by decide +kernel
theorem dX6_findsPlace_21 : decode cX6_findsPlace 21 = .ok (.if_icmp .gt 43, 3) := by decide +kernel
theorem dX6_findsPlace_24 : decode cX6_findsPlace 24 = .ok (.iload_n 3, 1) := by decide +kernel
theorem dX6_findsPlace_25 : decode cX6_findsPlace 25 = .ok (.ifCond .ne 39, 3) := by decide +kernel
theorem dX6_findsPlace_28 : decode cX6_findsPlace 28 = .ok (.aload_n 0, 1) := by decide +kernel
theorem dX6_findsPlace_29 : decode cX6_findsPlace 29 = .ok (.iload_n 1, 1) := by decide +kernel
theorem dX6_findsPlace_30 : decode cX6_findsPlace 30 = .ok (.iload_n 2, 1) := by decide +kernel
theorem dX6_findsPlace_31 : decode cX6_findsPlace 31 = .ok (.iload 4, 2) := by decide +kernel
theorem dX6_findsPlace_33 : decode cX6_findsPlace 33 = .ok (.isub, 1) := by decide +kernel
theorem dX6_findsPlace_34 : decode cX6_findsPlace 34 = .ok (.invokevirtual 218, 3) := by decide +kernel
theorem dX6_findsPlace_37 : decode cX6_findsPlace 37 = .ok (.ifCond .ne 15, 3) := by decide +kernel
theorem dX6_findsPlace_40 : decode cX6_findsPlace 40 = .ok (.aload_n 0, 1) := by decide +kernel
theorem dX6_findsPlace_41 : decode cX6_findsPlace 41 = .ok (.iload_n 1, 1) := by decide +kernel
theorem dX6_findsPlace_42 : decode cX6_findsPlace 42 = .ok (.iload_n 2, 1) := by decide +kernel
theorem dX6_findsPlace_43 : decode cX6_findsPlace 43 = .ok (.iload 4, 2) := by decide +kernel
theorem dX6_findsPlace_45 : decode cX6_findsPlace 45 = .ok (.iadd, 1) := by decide +kernel
theorem dX6_findsPlace_46 : decode cX6_findsPlace 46 = .ok (.invokevirtual 218, 3) := by decide +kernel
theorem dX6_findsPlace_49 : decode cX6_findsPlace 49 = .ok (.ifCond .eq 7, 3) := by decide +kernel
theorem dX6_findsPlace_52 : decode cX6_findsPlace 52 = .ok (.iconst 1, 1) := by decide +kernel
theorem dX6_findsPlace_53 : decode cX6_findsPlace 53 = .ok (.goto 4, 3) := by decide +kernel
theorem dX6_findsPlace_56 : decode cX6_findsPlace 56 = .ok (.iconst 0, 1) := by decide +kernel
theorem dX6_findsPlace_57 : decode cX6_findsPlace 57 = .ok (.istore_n 3, 1) := by decide +kernel
theorem dX6_findsPlace_58 : decode cX6_findsPlace 58 = .ok (.iinc 4 1, 3) := by decide +kernel
theorem dX6_findsPlace_61 : decode cX6_findsPlace 61 = .ok (.goto (-49), 3) := by decide +kernel
theorem dX6_findsPlace_64 : decode cX6_findsPlace 64 = .ok (.iload_n 3, 1) := by decide +kernel
theorem dX6_findsPlace_65 : decode cX6_findsPlace 65 = .ok (.ireturn, 1) := by decide +kernel
theorem dX6_nextOut_0 : decode cX6_nextOut 0 = .ok (.iconst (-1), 1) := by decide +kernel
theorem dX6_nextOut_1 : decode cX6_nextOut 1 = .ok (.istore_n 1, 1) := by decide +kernel
theorem dX6_nextOut_2 : decode cX6_nextOut 2 = .ok (.iconst 0, 1) := by decide +kernel
theorem dX6_nextOut_3 : decode cX6_nextOut 3 = .ok (.istore_n 2, 1) := by decide +kernel
theorem dX6_nextOut_4 : decode cX6_nextOut 4 = .ok (.iload_n 2, 1) := by decide +kernel
theorem dX6_nextOut_5 : decode cX6_nextOut 5 = .ok (.aload_n 0, 1) := by decide +kernel
theorem dX6_nextOut_6 : decode cX6_nextOut 6 = .ok (.getfield 9, 3) := by decide +kernel
theorem dX6_nextOut_9 : decode cX6_nextOut 9 = .ok (.iconst 4, 1) := by decide +kernel
theorem dX6_nextOut_10 : decode cX6_nextOut 10 = .ok (.iaload, 1) := by decide +kernel
theorem dX6_nextOut_11 : decode cX6_nextOut 11 = .ok (.if_icmp .ge 98, 3) := by decide +kernel
theorem dX6_nextOut_14 : decode cX6_nextOut 14 = .ok (.aload_n 0, 1) := by decide +kernel
theorem dX6_nextOut_15 : decode cX6_nextOut 15 = .ok (.iload_n 2, 1) := by decide +kernel
theorem dX6_nextOut_16 : decode cX6_nextOut 16 = .ok (.bipush 8, 2) := by decide +kernel
theorem dX6_nextOut_18 : decode cX6_nextOut 18 = .ok (.invokevirtual 89, 3) := by decide +kernel
theorem dX6_nextOut_21 : decode cX6_nextOut 21 = .ok (.iconst 2, 1) := by decide +kernel
theorem dX6_nextOut_22 : decode cX6_nextOut 22 = .ok (.if_icmp .ne 7, 3) := by decide +kernel
theorem dX6_nextOut_25 : decode cX6_nextOut 25 = .ok (.iconst 1, 1) := by decide +kernel
theorem dX6_nextOut_26 : decode cX6_nextOut 26 = .ok (.goto 4, 3) := by decide +kernel
theorem dX6_nextOut_29 : decode cX6_nextOut 29 = .ok (.iconst 0, 1) := by decide +kernel
theorem dX6_nextOut_30 : decode cX6_nextOut 30 = .ok (.istore_n 3, 1) := by decide +kernel
theorem dX6_nextOut_31 : decode cX6_nextOut 31 = .ok (.iload_n 3, 1) := by decide +kernel
theorem dX6_nextOut_32 : decode cX6_nextOut 32 = .ok (.ifCond .eq 57, 3) := by decide +kernel
theorem dX6_nextOut_35 : decode cX6_nextOut 35 = .ok (.iload_n 1, 1) := by decide +kernel
theorem dX6_nextOut_36 : decode cX6_nextOut 36 = .ok (.iconst (-1), 1) := by decide +kernel
theorem dX6_nextOut_37 : decode cX6_nextOut 37 = .ok (.if_icmp .eq 48, 3) := by decide +kernel
theorem dX6_nextOut_40 : decode cX6_nextOut 40 = .ok (.aload_n 0, 1) := by decide +kernel
theorem dX6_nextOut_41 : decode cX6_nextOut 41 = .ok (.iload_n 2, 1) := by decide +kernel
theorem dX6_nextOut_42 : decode cX6_nextOut 42 = .ok (.iconst 2, 1) := by decide +kernel
theorem dX6_nextOut_43 : decode cX6_nextOut 43 = .ok (.invokevirtual 89, 3) := by decide +kernel
theorem dX6_nextOut_46 : decode cX6_nextOut 46 = .ok (.aload_n 0, 1) := by decide +kernel
theorem dX6_nextOut_47 : decode cX6_nextOut 47 = .ok (.iload_n 1, 1) := by decide +kernel
theorem dX6_nextOut_48 : decode cX6_nextOut 48 = .ok (.iconst 2, 1) := by decide +kernel
theorem dX6_nextOut_49 : decode cX6_nextOut 49 = .ok (.invokevirtual 89, 3) := by decide +kernel
theorem dX6_nextOut_52 : decode cX6_nextOut 52 = .ok (.if_icmp .lt 33, 3) := by decide +kernel
theorem dX6_nextOut_55 : decode cX6_nextOut 55 = .ok (.aload_n 0, 1) := by decide +kernel
theorem dX6_nextOut_56 : decode cX6_nextOut 56 = .ok (.iload_n 2, 1) := by decide +kernel
theorem dX6_nextOut_57 : decode cX6_nextOut 57 = .ok (.iconst 2, 1) := by decide +kernel
theorem dX6_nextOut_58 : decode cX6_nextOut 58 = .ok (.invokevirtual 89, 3) := by decide +kernel
theorem dX6_nextOut_61 : decode cX6_nextOut 61 = .ok (.aload_n 0, 1) := by decide +kernel
theorem dX6_nextOut_62 : decode cX6_nextOut 62 = .ok (.iload_n 1, 1) := by decide +kernel
theorem dX6_nextOut_63 : decode cX6_nextOut 63 = .ok (.iconst 2, 1) := by decide +kernel
theorem dX6_nextOut_64 : decode cX6_nextOut 64 = .ok (.invokevirtual 89, 3) := by decide +kernel
theorem dX6_nextOut_67 : decode cX6_nextOut 67 = .ok (.if_icmp .ne 22, 3) := by decide +kernel
theorem dX6_nextOut_70 : decode cX6_nextOut 70 = .ok (.aload_n 0, 1) := by decide +kernel
theorem dX6_nextOut_71 : decode cX6_nextOut 71 = .ok (.iload_n 2, 1) := by decide +kernel
theorem dX6_nextOut_72 : decode cX6_nextOut 72 = .ok (.iconst 3, 1) := by decide +kernel
theorem dX6_nextOut_73 : decode cX6_nextOut 73 = .ok (.invokevirtual 89, 3) := by decide +kernel
theorem dX6_nextOut_76 : decode cX6_nextOut 76 = .ok (.aload_n 0, 1) := by decide +kernel
theorem dX6_nextOut_77 : decode cX6_nextOut 77 = .ok (.iload_n 1, 1) := by decide +kernel
theorem dX6_nextOut_78 : decode cX6_nextOut 78 = .ok (.iconst 3, 1) := by decide +kernel
theorem dX6_nextOut_79 : decode cX6_nextOut 79 = .ok (.invokevirtual 89, 3) := by decide +kernel
theorem dX6_nextOut_82 : decode cX6_nextOut 82 = .ok (.if_icmp .ge 7, 3) := by decide +kernel
theorem dX6_nextOut_85 : decode cX6_nextOut 85 = .ok (.iconst 1, 1) := by decide +kernel
theorem dX6_nextOut_86 : decode cX6_nextOut 86 = .ok (.goto 4, 3) := by decide +kernel
theorem dX6_nextOut_89 : decode cX6_nextOut 89 = .ok (.iconst 0, 1) := by decide +kernel
theorem dX6_nextOut_90 : decode cX6_nextOut 90 = .ok (.istore 4, 2) := by decide +kernel
theorem dX6_nextOut_92 : decode cX6_nextOut 92 = .ok (.iload 4, 2) := by decide +kernel
theorem dX6_nextOut_94 : decode cX6_nextOut 94 = .ok (.ifCond .eq 7, 3) := by decide +kernel
theorem dX6_nextOut_97 : decode cX6_nextOut 97 = .ok (.iload_n 2, 1) := by decide +kernel
theorem dX6_nextOut_98 : decode cX6_nextOut 98 = .ok (.goto 4, 3) := by decide +kernel
theorem dX6_nextOut_101 : decode cX6_nextOut 101 = .ok (.iload_n 1, 1) := by decide +kernel
theorem dX6_nextOut_102 : decode cX6_nextOut 102 = .ok (.istore_n 1, 1) := by decide +kernel
theorem dX6_nextOut_103 : decode cX6_nextOut 103 = .ok (.iinc 2 1, 3) := by decide +kernel
theorem dX6_nextOut_106 : decode cX6_nextOut 106 = .ok (.goto (-102), 3) := by decide +kernel
theorem dX6_nextOut_109 : decode cX6_nextOut 109 = .ok (.iload_n 1, 1) := by decide +kernel
theorem dX6_nextOut_110 : decode cX6_nextOut 110 = .ok (.ireturn, 1) := by decide +kernel
theorem dX6_treats_0 : decode cX6_treats 0 = .ok (.sipush 428, 3) := by decide +kernel
theorem dX6_treats_3 : decode cX6_treats 3 = .ok (.iconst 5, 1) := by decide +kernel
theorem dX6_treats_4 : decode cX6_treats 4 = .ok (.aload_n 0, 1) := by decide +kernel
theorem dX6_treats_5 : decode cX6_treats 5 = .ok (.getfield 9, 3) := by decide +kernel
theorem dX6_treats_8 : decode cX6_treats 8 = .ok (.bipush 6, 2) := by decide +kernel
theorem dX6_treats_10 : decode cX6_treats 10 = .ok (.iaload, 1) := by decide +kernel
theorem dX6_treats_11 : decode cX6_treats 11 = .ok (.imul, 1) := by decide +kernel
theorem dX6_treats_12 : decode cX6_treats 12 = .ok (.iadd, 1) := by decide +kernel
theorem dX6_treats_13 : decode cX6_treats 13 = .ok (.istore_n 2, 1) := by decide +kernel
theorem dX6_treats_14 : decode cX6_treats 14 = .ok (.aload_n 0, 1) := by decide +kernel
theorem dX6_treats_15 : decode cX6_treats 15 = .ok (.getfield 9, 3) := by decide +kernel
theorem dX6_treats_18 : decode cX6_treats 18 = .ok (.bipush 6, 2) := by decide +kernel
theorem dX6_treats_20 : decode cX6_treats 20 = .ok (.dup2, 1) := by decide +kernel
theorem dX6_treats_21 : decode cX6_treats 21 = .ok (.iaload, 1) := by decide +kernel
theorem dX6_treats_22 : decode cX6_treats 22 = .ok (.iconst 1, 1) := by decide +kernel
theorem dX6_treats_23 : decode cX6_treats 23 = .ok (.iadd, 1) := by decide +kernel
theorem dX6_treats_24 : decode cX6_treats 24 = .ok (.iastore, 1) := by decide +kernel
theorem dX6_treats_25 : decode cX6_treats 25 = .ok (.aload_n 0, 1) := by decide +kernel
theorem dX6_treats_26 : decode cX6_treats 26 = .ok (.getfield 9, 3) := by decide +kernel
theorem dX6_treats_29 : decode cX6_treats 29 = .ok (.iload_n 2, 1) := by decide +kernel
theorem dX6_treats_30 : decode cX6_treats 30 = .ok (.iload_n 1, 1) := by decide +kernel
theorem dX6_treats_31 : decode cX6_treats 31 = .ok (.iastore, 1) := by decide +kernel
theorem dX6_treats_32 : decode cX6_treats 32 = .ok (.aload_n 0, 1) := by decide +kernel
theorem dX6_treats_33 : decode cX6_treats 33 = .ok (.getfield 9, 3) := by decide +kernel
theorem dX6_treats_36 : decode cX6_treats 36 = .ok (.iload_n 2, 1) := by decide +kernel
theorem dX6_treats_37 : decode cX6_treats 37 = .ok (.iconst 1, 1) := by decide +kernel
theorem dX6_treats_38 : decode cX6_treats 38 = .ok (.iadd, 1) := by decide +kernel
theorem dX6_treats_39 : decode cX6_treats 39 = .ok (.aload_n 0, 1) := by decide +kernel
theorem dX6_treats_40 : decode cX6_treats 40 = .ok (.iload_n 1, 1) := by decide +kernel
theorem dX6_treats_41 : decode cX6_treats 41 = .ok (.iconst 3, 1) := by decide +kernel
theorem dX6_treats_42 : decode cX6_treats 42 = .ok (.invokevirtual 89, 3) := by decide +kernel
theorem dX6_treats_45 : decode cX6_treats 45 = .ok (.iastore, 1) := by decide +kernel
theorem dX6_treats_46 : decode cX6_treats 46 = .ok (.aload_n 0, 1) := by decide +kernel
theorem dX6_treats_47 : decode cX6_treats 47 = .ok (.getfield 9, 3) := by decide +kernel
theorem dX6_treats_50 : decode cX6_treats 50 = .ok (.iload_n 2, 1) := by decide +kernel
theorem dX6_treats_51 : decode cX6_treats 51 = .ok (.iconst 4, 1) := by decide +kernel
theorem dX6_treats_52 : decode cX6_treats 52 = .ok (.iadd, 1) := by decide +kernel
theorem dX6_treats_53 : decode cX6_treats 53 = .ok (.aload_n 0, 1) := by decide +kernel
theorem dX6_treats_54 : decode cX6_treats 54 = .ok (.iload_n 1, 1) := by decide +kernel
theorem dX6_treats_55 : decode cX6_treats 55 = .ok (.bipush 7, 2) := by decide +kernel
theorem dX6_treats_57 : decode cX6_treats 57 = .ok (.invokevirtual 89, 3) := by decide +kernel
theorem dX6_treats_60 : decode cX6_treats 60 = .ok (.iastore, 1) := by decide +kernel
theorem dX6_treats_61 : decode cX6_treats 61 = .ok (.aload_n 0, 1) := by decide +kernel
theorem dX6_treats_62 : decode cX6_treats 62 = .ok (.iload_n 1, 1) := by decide +kernel
theorem dX6_treats_63 : decode cX6_treats 63 = .ok (.invokevirtual 221, 3) := by decide +kernel
theorem dX6_treats_66 : decode cX6_treats 66 = .ok (.istore_n 3, 1) := by decide +kernel
theorem dX6_treats_67 : decode cX6_treats 67 = .ok (.aload_n 0, 1) := by decide +kernel
theorem dX6_treats_68 : decode cX6_treats 68 = .ok (.getfield 9, 3) := by decide +kernel
theorem dX6_treats_71 : decode cX6_treats 71 = .ok (.iload_n 2, 1) := by decide +kernel
theorem dX6_treats_72 : decode cX6_treats 72 = .ok (.iconst 2, 1) := by decide +kernel
theorem dX6_treats_73 : decode cX6_treats 73 = .ok (.iadd, 1) := by decide +kernel
theorem dX6_treats_74 : decode cX6_treats 74 = .ok (.iload_n 3, 1) := by decide +kernel
theorem dX6_treats_75 : decode cX6_treats 75 = .ok (.ifCond .eq 10, 3) := by decide +kernel
theorem dX6_treats_78 : decode cX6_treats 78 = .ok (.aload_n 0, 1) := by decide +kernel
theorem dX6_treats_79 : decode cX6_treats 79 = .ok (.getfield 212, 3) := by decide +kernel
theorem dX6_treats_82 : decode cX6_treats 82 = .ok (.goto 4, 3) := by decide +kernel
theorem dX6_treats_85 : decode cX6_treats 85 = .ok (.iconst (-1), 1) := by decide +kernel
theorem dX6_treats_86 : decode cX6_treats 86 = .ok (.iastore, 1) := by decide +kernel
theorem dX6_treats_87 : decode cX6_treats 87 = .ok (.aload_n 0, 1) := by decide +kernel
theorem dX6_treats_88 : decode cX6_treats 88 = .ok (.getfield 9, 3) := by decide +kernel
theorem dX6_treats_91 : decode cX6_treats 91 = .ok (.iload_n 2, 1) := by decide +kernel
theorem dX6_treats_92 : decode cX6_treats 92 = .ok (.iconst 3, 1) := by decide +kernel
theorem dX6_treats_93 : decode cX6_treats 93 = .ok (.iadd, 1) := by decide +kernel
theorem dX6_treats_94 : decode cX6_treats 94 = .ok (.iload_n 3, 1) := by decide +kernel
theorem dX6_treats_95 : decode cX6_treats 95 = .ok (.ifCond .eq 10, 3) := by decide +kernel
theorem dX6_treats_98 : decode cX6_treats 98 = .ok (.aload_n 0, 1) := by decide +kernel
theorem dX6_treats_99 : decode cX6_treats 99 = .ok (.getfield 215, 3) := by decide +kernel
theorem dX6_treats_102 : decode cX6_treats 102 = .ok (.goto 4, 3) := by decide +kernel
theorem dX6_treats_105 : decode cX6_treats 105 = .ok (.iconst (-1), 1) := by decide +kernel
theorem dX6_treats_106 : decode cX6_treats 106 = .ok (.iastore, 1) := by decide +kernel
theorem dX6_treats_107 : decode cX6_treats 107 = .ok (.iload_n 3, 1) := by decide +kernel
theorem dX6_treats_108 : decode cX6_treats 108 = .ok (.ifCond .ne 12, 3) := by decide +kernel
theorem dX6_treats_111 : decode cX6_treats 111 = .ok (.aload_n 0, 1) := by decide +kernel
theorem dX6_treats_112 : decode cX6_treats 112 = .ok (.iload_n 1, 1) := by decide +kernel
theorem dX6_treats_113 : decode cX6_treats 113 = .ok (.invokevirtual 209, 3) := by decide +kernel
theorem dX6_treats_116 : decode cX6_treats 116 = .ok (.istore 4, 2) := by decide +kernel
theorem dX6_treats_118 : decode cX6_treats 118 = .ok (.iconst 1, 1) := by decide +kernel
theorem dX6_treats_119 : decode cX6_treats 119 = .ok (.ireturn, 1) := by decide +kernel
theorem dX6_treats_120 : decode cX6_treats 120 = .ok (.aload_n 0, 1) := by decide +kernel
theorem dX6_treats_121 : decode cX6_treats 121 = .ok (.getfield 9, 3) := by decide +kernel
theorem dX6_treats_124 : decode cX6_treats 124 = .ok (.sipush 158, 3) := by decide +kernel
theorem dX6_treats_127 : decode cX6_treats 127 = .ok (.bipush 9, 2) := by decide +kernel
theorem dX6_treats_129 : decode cX6_treats 129 = .ok (.iload_n 1, 1) := by decide +kernel
theorem dX6_treats_130 : decode cX6_treats 130 = .ok (.imul, 1) := by decide +kernel
theorem dX6_treats_131 : decode cX6_treats 131 = .ok (.iadd, 1) := by decide +kernel
theorem dX6_treats_132 : decode cX6_treats 132 = .ok (.iconst 0, 1) := by decide +kernel
theorem dX6_treats_133 : decode cX6_treats 133 = .ok (.iadd, 1) := by decide +kernel
theorem dX6_treats_134 : decode cX6_treats 134 = .ok (.aload_n 0, 1) := by decide +kernel
theorem dX6_treats_135 : decode cX6_treats 135 = .ok (.getfield 212, 3) := by decide +kernel
theorem dX6_treats_138 : decode cX6_treats 138 = .ok (.iastore, 1) := by decide +kernel
theorem dX6_treats_139 : decode cX6_treats 139 = .ok (.aload_n 0, 1) := by decide +kernel
theorem dX6_treats_140 : decode cX6_treats 140 = .ok (.getfield 9, 3) := by decide +kernel
theorem dX6_treats_143 : decode cX6_treats 143 = .ok (.sipush 158, 3) := by decide +kernel
theorem dX6_treats_146 : decode cX6_treats 146 = .ok (.bipush 9, 2) := by decide +kernel
theorem dX6_treats_148 : decode cX6_treats 148 = .ok (.iload_n 1, 1) := by decide +kernel
theorem dX6_treats_149 : decode cX6_treats 149 = .ok (.imul, 1) := by decide +kernel
theorem dX6_treats_150 : decode cX6_treats 150 = .ok (.iadd, 1) := by decide +kernel
theorem dX6_treats_151 : decode cX6_treats 151 = .ok (.iconst 3, 1) := by decide +kernel
theorem dX6_treats_152 : decode cX6_treats 152 = .ok (.iadd, 1) := by decide +kernel
theorem dX6_treats_153 : decode cX6_treats 153 = .ok (.aload_n 0, 1) := by decide +kernel
theorem dX6_treats_154 : decode cX6_treats 154 = .ok (.getfield 215, 3) := by decide +kernel
theorem dX6_treats_157 : decode cX6_treats 157 = .ok (.iastore, 1) := by decide +kernel
theorem dX6_treats_158 : decode cX6_treats 158 = .ok (.aload_n 0, 1) := by decide +kernel
theorem dX6_treats_159 : decode cX6_treats 159 = .ok (.getfield 9, 3) := by decide +kernel
theorem dX6_treats_162 : decode cX6_treats 162 = .ok (.sipush 158, 3) := by decide +kernel
theorem dX6_treats_165 : decode cX6_treats 165 = .ok (.bipush 9, 2) := by decide +kernel
theorem dX6_treats_167 : decode cX6_treats 167 = .ok (.iload_n 1, 1) := by decide +kernel
theorem dX6_treats_168 : decode cX6_treats 168 = .ok (.imul, 1) := by decide +kernel
theorem dX6_treats_169 : decode cX6_treats 169 = .ok (.iadd, 1) := by decide +kernel
theorem dX6_treats_170 : decode cX6_treats 170 = .ok (.bipush 8, 2) := by decide +kernel
theorem dX6_treats_172 : decode cX6_treats 172 = .ok (.iadd, 1) := by decide +kernel
theorem dX6_treats_173 : decode cX6_treats 173 = .ok (.iconst 0, 1) := by decide +kernel
theorem dX6_treats_174 : decode cX6_treats 174 = .ok (.iastore, 1) := by decide +kernel
theorem dX6_treats_175 : decode cX6_treats 175 = .ok (.iconst 0, 1) := by decide +kernel
theorem dX6_treats_176 : decode cX6_treats 176 = .ok (.ireturn, 1) := by decide +kernel
theorem dX6_fail_0 : decode cX6_fail 0 = .ok (.aload_n 0, 1) := by decide +kernel
theorem dX6_fail_1 : decode cX6_fail 1 = .ok (.iload_n 1, 1) := by decide +kernel
theorem dX6_fail_2 : decode cX6_fail 2 = .ok (.invokevirtual 104, 3) := by decide +kernel
theorem dX6_fail_5 : decode cX6_fail 5 = .ok (.ifCond .ne 9, 3) := by decide +kernel
theorem dX6_fail_8 : decode cX6_fail 8 = .ok (.aload_n 0, 1) := by decide +kernel
theorem dX6_fail_9 : decode cX6_fail 9 = .ok (.iconst 1, 1) := by decide +kernel
theorem dX6_fail_10 : decode cX6_fail 10 = .ok (.invokevirtual 45, 3) := by decide +kernel
theorem dX6_fail_13 : decode cX6_fail 13 = .ok (.ireturn, 1) := by decide +kernel
theorem dX6_fail_14 : decode cX6_fail 14 = .ok (.iload_n 2, 1) := by decide +kernel
theorem dX6_fail_15 : decode cX6_fail 15 = .ok (.invokestatic 74, 3) := by decide +kernel
theorem dX6_fail_18 : decode cX6_fail 18 = .ok (.ifCond .eq 13, 3) := by decide +kernel
theorem dX6_fail_21 : decode cX6_fail 21 = .ok (.iload_n 2, 1) := by decide +kernel
theorem dX6_fail_22 : decode cX6_fail 22 = .ok (.aload_n 0, 1) := by decide +kernel
theorem dX6_fail_23 : decode cX6_fail 23 = .ok (.getfield 9, 3) := by decide +kernel
theorem dX6_fail_26 : decode cX6_fail 26 = .ok (.iconst 0, 1) := by decide +kernel
theorem dX6_fail_27 : decode cX6_fail 27 = .ok (.iaload, 1) := by decide +kernel
theorem dX6_fail_28 : decode cX6_fail 28 = .ok (.if_icmp .ge 9, 3) := by decide +kernel
theorem dX6_fail_31 : decode cX6_fail 31 = .ok (.aload_n 0, 1) := by decide +kernel
theorem dX6_fail_32 : decode cX6_fail 32 = .ok (.iconst 2, 1) := by decide +kernel
theorem dX6_fail_33 : decode cX6_fail 33 = .ok (.invokevirtual 45, 3) := by decide +kernel
theorem dX6_fail_36 : decode cX6_fail 36 = .ok (.ireturn, 1) := by decide +kernel
theorem dX6_fail_37 : decode cX6_fail 37 = .ok (.aload_n 0, 1) := by decide +kernel
theorem dX6_fail_38 : decode cX6_fail 38 = .ok (.iload_n 1, 1) := by decide +kernel
theorem dX6_fail_39 : decode cX6_fail 39 = .ok (.iconst 3, 1) := by decide +kernel
theorem dX6_fail_40 : decode cX6_fail 40 = .ok (.invokevirtual 95, 3) := by decide +kernel
theorem dX6_fail_43 : decode cX6_fail 43 = .ok (.iconst (-1), 1) := by decide +kernel
theorem dX6_fail_44 : decode cX6_fail 44 = .ok (.if_icmp .eq 9, 3) := by decide +kernel
theorem dX6_fail_47 : decode cX6_fail 47 = .ok (.aload_n 0, 1) := by decide +kernel
theorem dX6_fail_48 : decode cX6_fail 48 = .ok (.iconst 3, 1) := by decide +kernel
theorem dX6_fail_49 : decode cX6_fail 49 = .ok (.invokevirtual 45, 3) := by decide +kernel
theorem dX6_fail_52 : decode cX6_fail 52 = .ok (.ireturn, 1) := by decide +kernel
theorem dX6_fail_53 : decode cX6_fail 53 = .ok (.aload_n 0, 1) := by decide +kernel
theorem dX6_fail_54 : decode cX6_fail 54 = .ok (.invokevirtual 68, 3) := by decide +kernel
theorem dX6_fail_57 : decode cX6_fail 57 = .ok (.aload_n 0, 1) := by decide +kernel
theorem dX6_fail_58 : decode cX6_fail 58 = .ok (.getfield 9, 3) := by decide +kernel
theorem dX6_fail_61 : decode cX6_fail 61 = .ok (.bipush 30, 2) := by decide +kernel
theorem dX6_fail_63 : decode cX6_fail 63 = .ok (.iconst 4, 1) := by decide +kernel
theorem dX6_fail_64 : decode cX6_fail 64 = .ok (.iload_n 1, 1) := by decide +kernel
theorem dX6_fail_65 : decode cX6_fail 65 = .ok (.imul, 1) := by decide +kernel
theorem dX6_fail_66 : decode cX6_fail 66 = .ok (.iadd, 1) := by decide +kernel
theorem dX6_fail_67 : decode cX6_fail 67 = .ok (.iconst 3, 1) := by decide +kernel
theorem dX6_fail_68 : decode cX6_fail 68 = .ok (.iadd, 1) := by decide +kernel
theorem dX6_fail_69 : decode cX6_fail 69 = .ok (.iload_n 2, 1) := by decide +kernel
theorem dX6_fail_70 : decode cX6_fail 70 = .ok (.iastore, 1) := by decide +kernel
theorem dX6_fail_71 : decode cX6_fail 71 = .ok (.aload_n 0, 1) := by decide +kernel
theorem dX6_fail_72 : decode cX6_fail 72 = .ok (.getfield 9, 3) := by decide +kernel
theorem dX6_fail_75 : decode cX6_fail 75 = .ok (.bipush 6, 2) := by decide +kernel
theorem dX6_fail_77 : decode cX6_fail 77 = .ok (.iconst 0, 1) := by decide +kernel
theorem dX6_fail_78 : decode cX6_fail 78 = .ok (.iastore, 1) := by decide +kernel
theorem dX6_fail_79 : decode cX6_fail 79 = .ok (.aload_n 0, 1) := by decide +kernel
theorem dX6_fail_80 : decode cX6_fail 80 = .ok (.getfield 9, 3) := by decide +kernel
theorem dX6_fail_83 : decode cX6_fail 83 = .ok (.bipush 7, 2) := by decide +kernel
theorem dX6_fail_85 : decode cX6_fail 85 = .ok (.iconst 1, 1) := by decide +kernel
theorem dX6_fail_86 : decode cX6_fail 86 = .ok (.iastore, 1) := by decide +kernel
theorem dX6_fail_87 : decode cX6_fail 87 = .ok (.iconst 0, 1) := by decide +kernel
theorem dX6_fail_88 : decode cX6_fail 88 = .ok (.istore_n 3, 1) := by decide +kernel
theorem dX6_fail_89 : decode cX6_fail 89 = .ok (.iload_n 3, 1) := by decide +kernel
theorem dX6_fail_90 : decode cX6_fail 90 = .ok (.aload_n 0, 1) := by decide +kernel
theorem dX6_fail_91 : decode cX6_fail 91 = .ok (.getfield 9, 3) := by decide +kernel
theorem dX6_fail_94 : decode cX6_fail 94 = .ok (.iconst 4, 1) := by decide +kernel
theorem dX6_fail_95 : decode cX6_fail 95 = .ok (.iaload, 1) := by decide +kernel
theorem dX6_fail_96 : decode cX6_fail 96 = .ok (.if_icmp .ge 54, 3) := by decide +kernel
theorem dX6_fail_99 : decode cX6_fail 99 = .ok (.aload_n 0, 1) := by decide +kernel
theorem dX6_fail_100 : decode cX6_fail 100 = .ok (.iload_n 3, 1) := by decide +kernel
theorem dX6_fail_101 : decode cX6_fail 101 = .ok (.invokevirtual 107, 3) := by decide +kernel
theorem dX6_fail_104 : decode cX6_fail 104 = .ok (.ifCond .eq 40, 3) := by decide +kernel
theorem dX6_fail_107 : decode cX6_fail 107 = .ok (.aload_n 0, 1) := by decide +kernel
theorem dX6_fail_108 : decode cX6_fail 108 = .ok (.iload_n 3, 1) := by decide +kernel
theorem dX6_fail_109 : decode cX6_fail 109 = .ok (.iconst 0, 1) := by decide +kernel
theorem dX6_fail_110 : decode cX6_fail 110 = .ok (.invokevirtual 89, 3) := by decide +kernel
theorem dX6_fail_113 : decode cX6_fail 113 = .ok (.iload_n 1, 1) := by decide +kernel
theorem dX6_fail_114 : decode cX6_fail 114 = .ok (.if_icmp .ne 30, 3) := by decide +kernel
theorem dX6_fail_117 : decode cX6_fail 117 = .ok (.aload_n 0, 1) := by decide +kernel
theorem dX6_fail_118 : decode cX6_fail 118 = .ok (.iload_n 3, 1) := by decide +kernel
theorem dX6_fail_119 : decode cX6_fail 119 = .ok (.iconst 2, 1) := by decide +kernel
theorem dX6_fail_120 : decode cX6_fail 120 = .ok (.invokevirtual 89, 3) := by decide +kernel
theorem dX6_fail_123 : decode cX6_fail 123 = .ok (.iload_n 2, 1) := by decide +kernel
theorem dX6_fail_124 : decode cX6_fail 124 = .ok (.if_icmp .lt 20, 3) := by decide +kernel
theorem dX6_fail_127 : decode cX6_fail 127 = .ok (.aload_n 0, 1) := by decide +kernel
theorem dX6_fail_128 : decode cX6_fail 128 = .ok (.getfield 9, 3) := by decide +kernel
theorem dX6_fail_131 : decode cX6_fail 131 = .ok (.sipush 158, 3) := by decide +kernel
theorem dX6_fail_134 : decode cX6_fail 134 = .ok (.bipush 9, 2) := by decide +kernel
theorem dX6_fail_136 : decode cX6_fail 136 = .ok (.iload_n 3, 1) := by decide +kernel
theorem dX6_fail_137 : decode cX6_fail 137 = .ok (.imul, 1) := by decide +kernel
theorem dX6_fail_138 : decode cX6_fail 138 = .ok (.iadd, 1) := by decide +kernel
theorem dX6_fail_139 : decode cX6_fail 139 = .ok (.bipush 8, 2) := by decide +kernel
theorem dX6_fail_141 : decode cX6_fail 141 = .ok (.iadd, 1) := by decide +kernel
theorem dX6_fail_142 : decode cX6_fail 142 = .ok (.iconst 2, 1) := by decide +kernel
theorem dX6_fail_143 : decode cX6_fail 143 = .ok (.iastore, 1) := by decide +kernel
theorem dX6_fail_144 : decode cX6_fail 144 = .ok (.iinc 3 1, 3) := by decide +kernel
theorem dX6_fail_147 : decode cX6_fail 147 = .ok (.goto (-58), 3) := by decide +kernel
theorem dX6_fail_150 : decode cX6_fail 150 = .ok (.iconst 0, 1) := by decide +kernel
theorem dX6_fail_151 : decode cX6_fail 151 = .ok (.istore_n 3, 1) := by decide +kernel
theorem dX6_fail_152 : decode cX6_fail 152 = .ok (.aload_n 0, 1) := by decide +kernel
theorem dX6_fail_153 : decode cX6_fail 153 = .ok (.invokevirtual 224, 3) := by decide +kernel
theorem dX6_fail_156 : decode cX6_fail 156 = .ok (.istore 4, 2) := by decide +kernel
theorem dX6_fail_158 : decode cX6_fail 158 = .ok (.iload 4, 2) := by decide +kernel
theorem dX6_fail_160 : decode cX6_fail 160 = .ok (.iconst (-1), 1) := by decide +kernel
theorem dX6_fail_161 : decode cX6_fail 161 = .ok (.if_icmp .eq 21, 3) := by decide +kernel
theorem dX6_fail_164 : decode cX6_fail 164 = .ok (.iload_n 3, 1) := by decide +kernel
theorem dX6_fail_165 : decode cX6_fail 165 = .ok (.aload_n 0, 1) := by decide +kernel
theorem dX6_fail_166 : decode cX6_fail 166 = .ok (.iload 4, 2) := by decide +kernel
theorem dX6_fail_168 : decode cX6_fail 168 = .ok (.invokevirtual 227, 3) := by decide +kernel
theorem dX6_fail_171 : decode cX6_fail 171 = .ok (.iadd, 1) := by decide +kernel
theorem dX6_fail_172 : decode cX6_fail 172 = .ok (.istore_n 3, 1) := by decide +kernel
theorem dX6_fail_173 : decode cX6_fail 173 = .ok (.aload_n 0, 1) := by decide +kernel
theorem dX6_fail_174 : decode cX6_fail 174 = .ok (.invokevirtual 224, 3) := by decide +kernel
theorem dX6_fail_177 : decode cX6_fail 177 = .ok (.istore 4, 2) := by decide +kernel
theorem dX6_fail_179 : decode cX6_fail 179 = .ok (.goto (-21), 3) := by decide +kernel
theorem dX6_fail_182 : decode cX6_fail 182 = .ok (.aload_n 0, 1) := by decide +kernel
theorem dX6_fail_183 : decode cX6_fail 183 = .ok (.iload_n 3, 1) := by decide +kernel
theorem dX6_fail_184 : decode cX6_fail 184 = .ok (.invokevirtual 71, 3) := by decide +kernel
theorem dX6_fail_187 : decode cX6_fail 187 = .ok (.ireturn, 1) := by decide +kernel
theorem dX6_reopen_0 : decode cX6_reopen 0 = .ok (.aload_n 0, 1) := by decide +kernel
theorem dX6_reopen_1 : decode cX6_reopen 1 = .ok (.iload_n 1, 1) := by decide +kernel
theorem dX6_reopen_2 : decode cX6_reopen 2 = .ok (.invokevirtual 104, 3) := by decide +kernel
theorem dX6_reopen_5 : decode cX6_reopen 5 = .ok (.ifCond .ne 9, 3) := by decide +kernel
theorem dX6_reopen_8 : decode cX6_reopen 8 = .ok (.aload_n 0, 1) := by decide +kernel
theorem dX6_reopen_9 : decode cX6_reopen 9 = .ok (.iconst 1, 1) := by decide +kernel
theorem dX6_reopen_10 : decode cX6_reopen 10 = .ok (.invokevirtual 45, 3) := by decide +kernel
theorem dX6_reopen_13 : decode cX6_reopen 13 = .ok (.ireturn, 1) := by decide +kernel
theorem dX6_reopen_14 : decode cX6_reopen 14 = .ok (.aload_n 0, 1) := by decide +kernel
theorem dX6_reopen_15 : decode cX6_reopen 15 = .ok (.iload_n 1, 1) := by decide +kernel
theorem dX6_reopen_16 : decode cX6_reopen 16 = .ok (.iconst 3, 1) := by decide +kernel
theorem dX6_reopen_17 : decode cX6_reopen 17 = .ok (.invokevirtual 95, 3) := by decide +kernel
theorem dX6_reopen_20 : decode cX6_reopen 20 = .ok (.iconst (-1), 1) := by decide +kernel
theorem dX6_reopen_21 : decode cX6_reopen 21 = .ok (.if_icmp .ne 9, 3) := by decide +kernel
theorem dX6_reopen_24 : decode cX6_reopen 24 = .ok (.aload_n 0, 1) := by decide +kernel
theorem dX6_reopen_25 : decode cX6_reopen 25 = .ok (.iconst 2, 1) := by decide +kernel
theorem dX6_reopen_26 : decode cX6_reopen 26 = .ok (.invokevirtual 45, 3) := by decide +kernel
theorem dX6_reopen_29 : decode cX6_reopen 29 = .ok (.ireturn, 1) := by decide +kernel
theorem dX6_reopen_30 : decode cX6_reopen 30 = .ok (.aload_n 0, 1) := by decide +kernel
theorem dX6_reopen_31 : decode cX6_reopen 31 = .ok (.invokevirtual 68, 3) := by decide +kernel
theorem dX6_reopen_34 : decode cX6_reopen 34 = .ok (.aload_n 0, 1) := by decide +kernel
theorem dX6_reopen_35 : decode cX6_reopen 35 = .ok (.iload_n 1, 1) := by decide +kernel
theorem dX6_reopen_36 : decode cX6_reopen 36 = .ok (.iconst 3, 1) := by decide +kernel
theorem dX6_reopen_37 : decode cX6_reopen 37 = .ok (.invokevirtual 95, 3) := by decide +kernel
theorem dX6_reopen_40 : decode cX6_reopen 40 = .ok (.istore_n 2, 1) := by decide +kernel
theorem dX6_reopen_41 : decode cX6_reopen 41 = .ok (.aload_n 0, 1) := by decide +kernel
theorem dX6_reopen_42 : decode cX6_reopen 42 = .ok (.getfield 9, 3) := by decide +kernel
theorem dX6_reopen_45 : decode cX6_reopen 45 = .ok (.bipush 30, 2) := by decide +kernel
theorem dX6_reopen_47 : decode cX6_reopen 47 = .ok (.iconst 4, 1) := by decide +kernel
theorem dX6_reopen_48 : decode cX6_reopen 48 = .ok (.iload_n 1, 1) := by decide +kernel
theorem dX6_reopen_49 : decode cX6_reopen 49 = .ok (.imul, 1) := by decide +kernel
theorem dX6_reopen_50 : decode cX6_reopen 50 = .ok (.iadd, 1) := by decide +kernel
theorem dX6_reopen_51 : decode cX6_reopen 51 = .ok (.iconst 3, 1) := by decide +kernel
theorem dX6_reopen_52 : decode cX6_reopen 52 = .ok (.iadd, 1) := by decide +kernel
theorem dX6_reopen_53 : decode cX6_reopen 53 = .ok (.iconst (-1), 1) := by decide +kernel
theorem dX6_reopen_54 : decode cX6_reopen 54 = .ok (.iastore, 1) := by decide +kernel
theorem dX6_reopen_55 : decode cX6_reopen 55 = .ok (.aload_n 0, 1) := by decide +kernel
theorem dX6_reopen_56 : decode cX6_reopen 56 = .ok (.iload_n 2, 1) := by decide +kernel
theorem dX6_reopen_57 : decode cX6_reopen 57 = .ok (.invokevirtual 71, 3) := by decide +kernel
theorem dX6_reopen_60 : decode cX6_reopen 60 = .ok (.ireturn, 1) := by decide +kernel
theorem dX6_line_0 : decode cX6_line 0 = .ok (.aload_n 0, 1) := by decide +kernel
theorem dX6_line_1 : decode cX6_line 1 = .ok (.getfield 9, 3) := by decide +kernel
theorem dX6_line_4 : decode cX6_line 4 = .ok (.bipush 7, 2) := by decide +kernel
theorem dX6_line_6 : decode cX6_line 6 = .ok (.iaload, 1) := by decide +kernel
theorem dX6_line_7 : decode cX6_line 7 = .ok (.ifCond .eq 20, 3) := by decide +kernel
theorem dX6_line_10 : decode cX6_line 10 = .ok (.iload_n 1, 1) := by decide +kernel
theorem dX6_line_11 : decode cX6_line 11 = .ok (.iconst 0, 1) := by decide +kernel
theorem dX6_line_12 : decode cX6_line 12 = .ok (.aload_n 0, 1) := by decide +kernel
theorem dX6_line_13 : decode cX6_line 13 = .ok (.getfield 9, 3) := by decide +kernel
theorem dX6_line_16 : decode cX6_line 16 = .ok (.bipush 6, 2) := by decide +kernel
theorem dX6_line_18 : decode cX6_line 18 = .ok (.iaload, 1) := by decide +kernel
theorem dX6_line_19 : decode cX6_line 19 = .ok (.iconst 1, 1) := by decide +kernel
theorem dX6_line_20 : decode cX6_line 20 = .ok (.isub, 1) := by decide +kernel
theorem dX6_line_21 : decode cX6_line 21 = .ok (.invokestatic 64, 3) := by decide +kernel
theorem dX6_line_24 : decode cX6_line 24 = .ok (.ifCond .ne 9, 3) := by decide +kernel
theorem dX6_line_27 : decode cX6_line 27 = .ok (.aload_n 0, 1) := by decide +kernel
theorem dX6_line_28 : decode cX6_line 28 = .ok (.iconst 1, 1) := by decide +kernel
theorem dX6_line_29 : decode cX6_line 29 = .ok (.invokevirtual 45, 3) := by decide +kernel
theorem dX6_line_32 : decode cX6_line 32 = .ok (.ireturn, 1) := by decide +kernel
theorem dX6_line_33 : decode cX6_line 33 = .ok (.iload_n 2, 1) := by decide +kernel
theorem dX6_line_34 : decode cX6_line 34 = .ok (.iconst 0, 1) := by decide +kernel
theorem dX6_line_35 : decode cX6_line 35 = .ok (.iconst 4, 1) := by decide +kernel
theorem dX6_line_36 : decode cX6_line 36 = .ok (.invokestatic 64, 3) := by decide +kernel
theorem dX6_line_39 : decode cX6_line 39 = .ok (.ifCond .eq 24, 3) := by decide +kernel
theorem dX6_line_42 : decode cX6_line 42 = .ok (.aload_n 0, 1) := by decide +kernel
theorem dX6_line_43 : decode cX6_line 43 = .ok (.aload_n 0, 1) := by decide +kernel
theorem dX6_line_44 : decode cX6_line 44 = .ok (.getfield 9, 3) := by decide +kernel
theorem dX6_line_47 : decode cX6_line 47 = .ok (.sipush 428, 3) := by decide +kernel
theorem dX6_line_50 : decode cX6_line 50 = .ok (.iconst 5, 1) := by decide +kernel
theorem dX6_line_51 : decode cX6_line 51 = .ok (.iload_n 1, 1) := by decide +kernel
theorem dX6_line_52 : decode cX6_line 52 = .ok (.imul, 1) := by decide +kernel
theorem dX6_line_53 : decode cX6_line 53 = .ok (.iadd, 1) := by decide +kernel
theorem dX6_line_54 : decode cX6_line 54 = .ok (.iload_n 2, 1) := by decide +kernel
theorem dX6_line_55 : decode cX6_line 55 = .ok (.iadd, 1) := by decide +kernel
theorem dX6_line_56 : decode cX6_line 56 = .ok (.iaload, 1) := by decide +kernel
theorem dX6_line_57 : decode cX6_line 57 = .ok (.invokevirtual 71, 3) := by decide +kernel
theorem dX6_line_60 : decode cX6_line 60 = .ok (.goto 8, 3) := by decide +kernel
theorem dX6_line_63 : decode cX6_line 63 = .ok (.aload_n 0, 1) := by decide +kernel
theorem dX6_line_64 : decode cX6_line 64 = .ok (.iconst 2, 1) := by decide +kernel
theorem dX6_line_65 : decode cX6_line 65 = .ok (.invokevirtual 45, 3) := by decide +kernel
theorem dX6_line_68 : decode cX6_line 68 = .ok (.ireturn, 1) := by decide +kernel
theorem dX6_upTo_0 : decode cX6_upTo 0 = .ok (.iload_n 0, 1) := by decide +kernel
theorem dX6_upTo_1 : decode cX6_upTo 1 = .ok (.sipush 960, 3) := by decide +kernel
theorem dX6_upTo_4 : decode cX6_upTo 4 = .ok (.if_icmp .ge 7, 3) := by decide +kernel
theorem dX6_upTo_7 : decode cX6_upTo 7 = .ok (.iload_n 0, 1) := by decide +kernel
theorem dX6_upTo_8 : decode cX6_upTo 8 = .ok (.goto 6, 3) := by decide +kernel
theorem dX6_upTo_11 : decode cX6_upTo 11 = .ok (.sipush 960, 3) := by decide +kernel
theorem dX6_upTo_14 : decode cX6_upTo 14 = .ok (.ireturn, 1) := by decide +kernel
theorem dX6_used_0 : decode cX6_used 0 = .ok (.aload_n 0, 1) := by decide +kernel
theorem dX6_used_1 : decode cX6_used 1 = .ok (.iload_n 1, 1) := by decide +kernel
theorem dX6_used_2 : decode cX6_used 2 = .ok (.invokevirtual 104, 3) := by decide +kernel
theorem dX6_used_5 : decode cX6_used 5 = .ok (.ifCond .ne 9, 3) := by decide +kernel
theorem dX6_used_8 : decode cX6_used 8 = .ok (.aload_n 0, 1) := by decide +kernel
theorem dX6_used_9 : decode cX6_used 9 = .ok (.iconst 1, 1) := by decide +kernel
theorem dX6_used_10 : decode cX6_used 10 = .ok (.invokevirtual 45, 3) := by decide +kernel
theorem dX6_used_13 : decode cX6_used 13 = .ok (.ireturn, 1) := by decide +kernel
theorem dX6_used_14 : decode cX6_used 14 = .ok (.iload_n 2, 1) := by decide +kernel
theorem dX6_used_15 : decode cX6_used 15 = .ok (.invokestatic 74, 3) := by decide +kernel
theorem dX6_used_18 : decode cX6_used 18 = .ok (.ifCond .eq 12, 3) := by decide +kernel
theorem dX6_used_21 : decode cX6_used 21 = .ok (.iload_n 3, 1) := by decide +kernel
theorem dX6_used_22 : decode cX6_used 22 = .ok (.iconst 0, 1) := by decide +kernel
theorem dX6_used_23 : decode cX6_used 23 = .ok (.iconst 4, 1) := by decide +kernel
theorem dX6_used_24 : decode cX6_used 24 = .ok (.invokestatic 64, 3) := by decide +kernel
theorem dX6_used_27 : decode cX6_used 27 = .ok (.ifCond .ne 9, 3) := by decide +kernel
theorem dX6_used_30 : decode cX6_used 30 = .ok (.aload_n 0, 1) := by decide +kernel
theorem dX6_used_31 : decode cX6_used 31 = .ok (.iconst 2, 1) := by decide +kernel
theorem dX6_used_32 : decode cX6_used 32 = .ok (.invokevirtual 45, 3) := by decide +kernel
theorem dX6_used_35 : decode cX6_used 35 = .ok (.ireturn, 1) := by decide +kernel
theorem dX6_used_36 : decode cX6_used 36 = .ok (.iconst 0, 1) := by decide +kernel
theorem dX6_used_37 : decode cX6_used 37 = .ok (.istore 4, 2) := by decide +kernel
theorem dX6_used_39 : decode cX6_used 39 = .ok (.iconst 0, 1) := by decide +kernel
theorem dX6_used_40 : decode cX6_used 40 = .ok (.istore 5, 2) := by decide +kernel
theorem dX6_used_42 : decode cX6_used 42 = .ok (.iconst (-1), 1) := by decide +kernel
theorem dX6_used_43 : decode cX6_used 43 = .ok (.istore 6, 2) := by decide +kernel
theorem dX6_used_45 : decode cX6_used 45 = .ok (.iconst (-1), 1) := by decide +kernel
theorem dX6_used_46 : decode cX6_used 46 = .ok (.istore 7, 2) := by decide +kernel
theorem dX6_used_48 : decode cX6_used 48 = .ok (.iconst 0, 1) := by decide +kernel
theorem dX6_used_49 : decode cX6_used 49 = .ok (.istore 8, 2) := by decide +kernel
theorem dX6_used_51 : decode cX6_used 51 = .ok (.iload 8, 2) := by decide +kernel
theorem dX6_used_53 : decode cX6_used 53 = .ok (.aload_n 0, 1) := by decide +kernel
theorem dX6_used_54 : decode cX6_used 54 = .ok (.getfield 9, 3) := by decide +kernel
theorem dX6_used_57 : decode cX6_used 57 = .ok (.iconst 4, 1) := by decide +kernel
theorem dX6_used_58 : decode cX6_used 58 = .ok (.iaload, 1) := by decide +kernel
theorem dX6_used_59 : decode cX6_used 59 = .ok (.if_icmp .ge 138, 3) := by decide +kernel
theorem dX6_used_62 : decode cX6_used 62 = .ok (.aload_n 0, 1) := by decide +kernel
theorem dX6_used_63 : decode cX6_used 63 = .ok (.iload 8, 2) := by decide +kernel
theorem dX6_used_65 : decode cX6_used 65 = .ok (.invokevirtual 107, 3) := by decide +kernel
theorem dX6_used_68 : decode cX6_used 68 = .ok (.ifCond .eq 123, 3) := by decide +kernel
theorem dX6_used_71 : decode cX6_used 71 = .ok (.aload_n 0, 1) := by decide +kernel
theorem dX6_used_72 : decode cX6_used 72 = .ok (.iload 8, 2) := by decide +kernel
theorem dX6_used_74 : decode cX6_used 74 = .ok (.iconst 0, 1) := by decide +kernel
theorem dX6_used_75 : decode cX6_used 75 = .ok (.invokevirtual 89, 3) := by decide +kernel
theorem dX6_used_78 : decode cX6_used 78 = .ok (.iload_n 1, 1) := by decide +kernel
theorem dX6_used_79 : decode cX6_used 79 = .ok (.if_icmp .ne 112, 3) := by decide +kernel
theorem dX6_used_82 : decode cX6_used 82 = .ok (.aload_n 0, 1) := by decide +kernel
theorem dX6_used_83 : decode cX6_used 83 = .ok (.iload 8, 2) := by decide +kernel
theorem dX6_used_85 : decode cX6_used 85 = .ok (.iconst 2, 1) := by decide +kernel
theorem dX6_used_86 : decode cX6_used 86 = .ok (.invokevirtual 89, 3) := by decide +kernel
theorem dX6_used_89 : decode cX6_used 89 = .ok (.iload_n 2, 1) := by decide +kernel
theorem dX6_used_90 : decode cX6_used 90 = .ok (.if_icmp .ne 101, 3) := by decide +kernel
theorem dX6_used_93 : decode cX6_used 93 = .ok (.iload 4, 2) := by decide +kernel
theorem dX6_used_95 : decode cX6_used 95 = .ok (.aload_n 0, 1) := by decide +kernel
theorem dX6_used_96 : decode cX6_used 96 = .ok (.iload 8, 2) := by decide +kernel
theorem dX6_used_98 : decode cX6_used 98 = .ok (.invokevirtual 92, 3) := by decide +kernel
theorem dX6_used_101 : decode cX6_used 101 = .ok (.iadd, 1) := by decide +kernel
theorem dX6_used_102 : decode cX6_used 102 = .ok (.istore 4, 2) := by decide +kernel
theorem dX6_used_104 : decode cX6_used 104 = .ok (.iload 5, 2) := by decide +kernel
theorem dX6_used_106 : decode cX6_used 106 = .ok (.aload_n 0, 1) := by decide +kernel
theorem dX6_used_107 : decode cX6_used 107 = .ok (.iload 8, 2) := by decide +kernel
theorem dX6_used_109 : decode cX6_used 109 = .ok (.invokevirtual 151, 3) := by decide +kernel
theorem dX6_used_112 : decode cX6_used 112 = .ok (.aload_n 0, 1) := by decide +kernel
theorem dX6_used_113 : decode cX6_used 113 = .ok (.iload 8, 2) := by decide +kernel
theorem dX6_used_115 : decode cX6_used 115 = .ok (.invokevirtual 154, 3) := by decide +kernel
theorem dX6_used_118 : decode cX6_used 118 = .ok (.iadd, 1) := by decide +kernel
theorem dX6_used_119 : decode cX6_used 119 = .ok (.invokestatic 230, 3) := by decide +kernel
theorem dX6_used_122 : decode cX6_used 122 = .ok (.aload_n 0, 1) := by decide +kernel
theorem dX6_used_123 : decode cX6_used 123 = .ok (.iload 8, 2) := by decide +kernel
theorem dX6_used_125 : decode cX6_used 125 = .ok (.invokevirtual 151, 3) := by decide +kernel
theorem dX6_used_128 : decode cX6_used 128 = .ok (.invokestatic 230, 3) := by decide +kernel
theorem dX6_used_131 : decode cX6_used 131 = .ok (.isub, 1) := by decide +kernel
theorem dX6_used_132 : decode cX6_used 132 = .ok (.iadd, 1) := by decide +kernel
theorem dX6_used_133 : decode cX6_used 133 = .ok (.istore 5, 2) := by decide +kernel
theorem dX6_used_135 : decode cX6_used 135 = .ok (.iload 6, 2) := by decide +kernel
theorem dX6_used_137 : decode cX6_used 137 = .ok (.iconst (-1), 1) := by decide +kernel
theorem dX6_used_138 : decode cX6_used 138 = .ok (.if_icmp .eq 15, 3) := by decide +kernel
theorem dX6_used_141 : decode cX6_used 141 = .ok (.aload_n 0, 1) := by decide +kernel
theorem dX6_used_142 : decode cX6_used 142 = .ok (.iload 8, 2) := by decide +kernel
theorem dX6_used_144 : decode cX6_used 144 = .ok (.iconst 3, 1) := by decide +kernel
theorem dX6_used_145 : decode cX6_used 145 = .ok (.invokevirtual 89, 3) := by decide +kernel
theorem dX6_used_148 : decode cX6_used 148 = .ok (.iload 6, 2) := by decide +kernel
theorem dX6_used_150 : decode cX6_used 150 = .ok (.if_icmp .ge 13, 3) := by decide +kernel
theorem dX6_used_153 : decode cX6_used 153 = .ok (.aload_n 0, 1) := by decide +kernel
theorem dX6_used_154 : decode cX6_used 154 = .ok (.iload 8, 2) := by decide +kernel
theorem dX6_used_156 : decode cX6_used 156 = .ok (.iconst 3, 1) := by decide +kernel
theorem dX6_used_157 : decode cX6_used 157 = .ok (.invokevirtual 89, 3) := by decide +kernel
theorem dX6_used_160 : decode cX6_used 160 = .ok (.goto 5, 3) := by decide +kernel
theorem dX6_used_163 : decode cX6_used 163 = .ok (.iload 6, 2) := by decide +kernel
theorem dX6_used_165 : decode cX6_used 165 = .ok (.istore 6, 2) := by decide +kernel
theorem dX6_used_167 : decode cX6_used 167 = .ok (.aload_n 0, 1) := by decide +kernel
theorem dX6_used_168 : decode cX6_used 168 = .ok (.iload 8, 2) := by decide +kernel
theorem dX6_used_170 : decode cX6_used 170 = .ok (.invokevirtual 151, 3) := by decide +kernel
theorem dX6_used_173 : decode cX6_used 173 = .ok (.iload 7, 2) := by decide +kernel
theorem dX6_used_175 : decode cX6_used 175 = .ok (.if_icmp .le 12, 3) := by decide +kernel
theorem dX6_used_178 : decode cX6_used 178 = .ok (.aload_n 0, 1) := by decide +kernel
theorem dX6_used_179 : decode cX6_used 179 = .ok (.iload 8, 2) := by decide +kernel
theorem dX6_used_181 : decode cX6_used 181 = .ok (.invokevirtual 151, 3) := by decide +kernel
theorem dX6_used_184 : decode cX6_used 184 = .ok (.goto 5, 3) := by decide +kernel
theorem dX6_used_187 : decode cX6_used 187 = .ok (.iload 7, 2) := by decide +kernel
theorem dX6_used_189 : decode cX6_used 189 = .ok (.istore 7, 2) := by decide +kernel
theorem dX6_used_191 : decode cX6_used 191 = .ok (.iinc 8 1, 3) := by decide +kernel
theorem dX6_used_194 : decode cX6_used 194 = .ok (.goto (-143), 3) := by decide +kernel
theorem dX6_used_197 : decode cX6_used 197 = .ok (.aload_n 0, 1) := by decide +kernel
theorem dX6_used_198 : decode cX6_used 198 = .ok (.iload_n 3, 1) := by decide +kernel
theorem dX6_used_199 : decode cX6_used 199 = .ok (.ifCond .ne 8, 3) := by decide +kernel
theorem dX6_used_202 : decode cX6_used 202 = .ok (.iload 4, 2) := by decide +kernel
theorem dX6_used_204 : decode cX6_used 204 = .ok (.goto 42, 3) := by decide +kernel
theorem dX6_used_207 : decode cX6_used 207 = .ok (.iload_n 3, 1) := by decide +kernel
theorem dX6_used_208 : decode cX6_used 208 = .ok (.iconst 1, 1) := by decide +kernel
theorem dX6_used_209 : decode cX6_used 209 = .ok (.if_icmp .ne 8, 3) := by decide +kernel
theorem dX6_used_212 : decode cX6_used 212 = .ok (.iload 5, 2) := by decide +kernel
theorem dX6_used_214 : decode cX6_used 214 = .ok (.goto 32, 3) := by decide +kernel
theorem dX6_used_217 : decode cX6_used 217 = .ok (.iload_n 3, 1) := by decide +kernel
theorem dX6_used_218 : decode cX6_used 218 = .ok (.iconst 2, 1) := by decide +kernel
theorem dX6_used_219 : decode cX6_used 219 = .ok (.if_icmp .ne 15, 3) := by decide +kernel
theorem dX6_used_222 : decode cX6_used 222 = .ok (.sipush 960, 3) := by decide +kernel
theorem dX6_used_225 : decode cX6_used 225 = .ok (.iload 4, 2) := by decide +kernel
theorem dX6_used_227 : decode cX6_used 227 = .ok (.isub, 1) := by decide +kernel
theorem dX6_used_228 : decode cX6_used 228 = .ok (.iload 5, 2) := by decide +kernel
theorem dX6_used_230 : decode cX6_used 230 = .ok (.isub, 1) := by decide +kernel
theorem dX6_used_231 : decode cX6_used 231 = .ok (.goto 15, 3) := by decide +kernel
theorem dX6_used_234 : decode cX6_used 234 = .ok (.iload_n 3, 1) := by decide +kernel
theorem dX6_used_235 : decode cX6_used 235 = .ok (.iconst 3, 1) := by decide +kernel
theorem dX6_used_236 : decode cX6_used 236 = .ok (.if_icmp .ne 8, 3) := by decide +kernel
theorem dX6_used_239 : decode cX6_used 239 = .ok (.iload 6, 2) := by decide +kernel
theorem dX6_used_241 : decode cX6_used 241 = .ok (.goto 5, 3) := by decide +kernel
theorem dX6_used_244 : decode cX6_used 244 = .ok (.iload 7, 2) := by decide +kernel
theorem dX6_used_246 : decode cX6_used 246 = .ok (.invokevirtual 71, 3) := by decide +kernel
theorem dX6_used_249 : decode cX6_used 249 = .ok (.ireturn, 1) := by decide +kernel
theorem dX6_at_0 : decode cX6_at 0 = .ok (.iload_n 1, 1) := by decide +kernel
theorem dX6_at_1 : decode cX6_at 1 = .ok (.invokestatic 74, 3) := by decide +kernel
theorem dX6_at_4 : decode cX6_at 4 = .ok (.ifCond .eq 23, 3) := by decide +kernel
theorem dX6_at_7 : decode cX6_at 7 = .ok (.iload_n 2, 1) := by decide +kernel
theorem dX6_at_8 : decode cX6_at 8 = .ok (.iconst 0, 1) := by decide +kernel
theorem dX6_at_9 : decode cX6_at 9 = .ok (.sipush 1200, 3) := by decide +kernel
theorem dX6_at_12 : decode cX6_at 12 = .ok (.invokestatic 64, 3) := by decide +kernel
theorem dX6_at_15 : decode cX6_at 15 = .ok (.ifCond .eq 12, 3) := by decide +kernel
theorem dX6_at_18 : decode cX6_at 18 = .ok (.iload_n 3, 1) := by decide +kernel
theorem dX6_at_19 : decode cX6_at 19 = .ok (.iconst 0, 1) := by decide +kernel
theorem dX6_at_20 : decode cX6_at 20 = .ok (.iconst 3, 1) := by decide +kernel
theorem dX6_at_21 : decode cX6_at 21 = .ok (.invokestatic 64, 3) := by decide +kernel
theorem dX6_at_24 : decode cX6_at 24 = .ok (.ifCond .ne 9, 3) := by decide +kernel
theorem dX6_at_27 : decode cX6_at 27 = .ok (.aload_n 0, 1) := by decide +kernel
theorem dX6_at_28 : decode cX6_at 28 = .ok (.iconst 1, 1) := by decide +kernel
theorem dX6_at_29 : decode cX6_at 29 = .ok (.invokevirtual 45, 3) := by decide +kernel
theorem dX6_at_32 : decode cX6_at 32 = .ok (.ireturn, 1) := by decide +kernel
theorem dX6_at_33 : decode cX6_at 33 = .ok (.iconst 0, 1) := by decide +kernel
theorem dX6_at_34 : decode cX6_at 34 = .ok (.istore 4, 2) := by decide +kernel
theorem dX6_at_36 : decode cX6_at 36 = .ok (.iconst 0, 1) := by decide +kernel
theorem dX6_at_37 : decode cX6_at 37 = .ok (.istore 5, 2) := by decide +kernel
theorem dX6_at_39 : decode cX6_at 39 = .ok (.iconst 0, 1) := by decide +kernel
theorem dX6_at_40 : decode cX6_at 40 = .ok (.istore 6, 2) := by decide +kernel
theorem dX6_at_42 : decode cX6_at 42 = .ok (.iconst (-1), 1) := by decide +kernel
theorem dX6_at_43 : decode cX6_at 43 = .ok (.istore 7, 2) := by decide +kernel
theorem dX6_at_45 : decode cX6_at 45 = .ok (.iconst 0, 1) := by decide +kernel
theorem dX6_at_46 : decode cX6_at 46 = .ok (.istore 8, 2) := by decide +kernel
theorem dX6_at_48 : decode cX6_at 48 = .ok (.iload 8, 2) := by decide +kernel
theorem dX6_at_50 : decode cX6_at 50 = .ok (.aload_n 0, 1) := by decide +kernel
theorem dX6_at_51 : decode cX6_at 51 = .ok (.getfield 9, 3) := by decide +kernel
theorem dX6_at_54 : decode cX6_at 54 = .ok (.iconst 4, 1) := by decide +kernel
theorem dX6_at_55 : decode cX6_at 55 = .ok (.iaload, 1) := by decide +kernel
theorem dX6_at_56 : decode cX6_at 56 = .ok (.if_icmp .ge 149, 3) := by decide +kernel
theorem dX6_at_59 : decode cX6_at 59 = .ok (.aload_n 0, 1) := by decide +kernel
theorem dX6_at_60 : decode cX6_at 60 = .ok (.iload 8, 2) := by decide +kernel
theorem dX6_at_62 : decode cX6_at 62 = .ok (.invokevirtual 107, 3) := by decide +kernel
theorem dX6_at_65 : decode cX6_at 65 = .ok (.ifCond .eq 134, 3) := by decide +kernel
theorem dX6_at_68 : decode cX6_at 68 = .ok (.aload_n 0, 1) := by decide +kernel
theorem dX6_at_69 : decode cX6_at 69 = .ok (.iload 8, 2) := by decide +kernel
theorem dX6_at_71 : decode cX6_at 71 = .ok (.iconst 2, 1) := by decide +kernel
theorem dX6_at_72 : decode cX6_at 72 = .ok (.invokevirtual 89, 3) := by decide +kernel
theorem dX6_at_75 : decode cX6_at 75 = .ok (.iload_n 1, 1) := by decide +kernel
theorem dX6_at_76 : decode cX6_at 76 = .ok (.if_icmp .ne 123, 3) := by decide +kernel
theorem dX6_at_79 : decode cX6_at 79 = .ok (.iload_n 2, 1) := by decide +kernel
theorem dX6_at_80 : decode cX6_at 80 = .ok (.aload_n 0, 1) := by decide +kernel
theorem dX6_at_81 : decode cX6_at 81 = .ok (.iload 8, 2) := by decide +kernel
theorem dX6_at_83 : decode cX6_at 83 = .ok (.iconst 3, 1) := by decide +kernel
theorem dX6_at_84 : decode cX6_at 84 = .ok (.invokevirtual 89, 3) := by decide +kernel
theorem dX6_at_87 : decode cX6_at 87 = .ok (.aload_n 0, 1) := by decide +kernel
theorem dX6_at_88 : decode cX6_at 88 = .ok (.iload 8, 2) := by decide +kernel
theorem dX6_at_90 : decode cX6_at 90 = .ok (.invokevirtual 151, 3) := by decide +kernel
theorem dX6_at_93 : decode cX6_at 93 = .ok (.iconst 1, 1) := by decide +kernel
theorem dX6_at_94 : decode cX6_at 94 = .ok (.isub, 1) := by decide +kernel
theorem dX6_at_95 : decode cX6_at 95 = .ok (.invokestatic 64, 3) := by decide +kernel
theorem dX6_at_98 : decode cX6_at 98 = .ok (.istore 9, 2) := by decide +kernel
theorem dX6_at_100 : decode cX6_at 100 = .ok (.iload 4, 2) := by decide +kernel
theorem dX6_at_102 : decode cX6_at 102 = .ok (.iload 9, 2) := by decide +kernel
theorem dX6_at_104 : decode cX6_at 104 = .ok (.ifCond .eq 7, 3) := by decide +kernel
theorem dX6_at_107 : decode cX6_at 107 = .ok (.iconst 1, 1) := by decide +kernel
theorem dX6_at_108 : decode cX6_at 108 = .ok (.goto 4, 3) := by decide +kernel
theorem dX6_at_111 : decode cX6_at 111 = .ok (.iconst 0, 1) := by decide +kernel
theorem dX6_at_112 : decode cX6_at 112 = .ok (.iadd, 1) := by decide +kernel
theorem dX6_at_113 : decode cX6_at 113 = .ok (.istore 4, 2) := by decide +kernel
theorem dX6_at_115 : decode cX6_at 115 = .ok (.iload 6, 2) := by decide +kernel
theorem dX6_at_117 : decode cX6_at 117 = .ok (.iload 9, 2) := by decide +kernel
theorem dX6_at_119 : decode cX6_at 119 = .ok (.ifCond .eq 18, 3) := by decide +kernel
theorem dX6_at_122 : decode cX6_at 122 = .ok (.aload_n 0, 1) := by decide +kernel
theorem dX6_at_123 : decode cX6_at 123 = .ok (.aload_n 0, 1) := by decide +kernel
theorem dX6_at_124 : decode cX6_at 124 = .ok (.iload 8, 2) := by decide +kernel
theorem dX6_at_126 : decode cX6_at 126 = .ok (.iconst 0, 1) := by decide +kernel
theorem dX6_at_127 : decode cX6_at 127 = .ok (.invokevirtual 89, 3) := by decide +kernel
theorem dX6_at_130 : decode cX6_at 130 = .ok (.iconst 0, 1) := by decide +kernel
theorem dX6_at_131 : decode cX6_at 131 = .ok (.invokevirtual 95, 3) := by decide +kernel
theorem dX6_at_134 : decode cX6_at 134 = .ok (.goto 4, 3) := by decide +kernel
theorem dX6_at_137 : decode cX6_at 137 = .ok (.iconst 0, 1) := by decide +kernel
theorem dX6_at_138 : decode cX6_at 138 = .ok (.iadd, 1) := by decide +kernel
theorem dX6_at_139 : decode cX6_at 139 = .ok (.istore 6, 2) := by decide +kernel
theorem dX6_at_141 : decode cX6_at 141 = .ok (.iload 9, 2) := by decide +kernel
theorem dX6_at_143 : decode cX6_at 143 = .ok (.ifCond .eq 14, 3) := by decide +kernel
theorem dX6_at_146 : decode cX6_at 146 = .ok (.iload 7, 2) := by decide +kernel
theorem dX6_at_148 : decode cX6_at 148 = .ok (.iconst (-1), 1) := by decide +kernel
theorem dX6_at_149 : decode cX6_at 149 = .ok (.if_icmp .ne 8, 3) := by decide +kernel
theorem dX6_at_152 : decode cX6_at 152 = .ok (.iload 8, 2) := by decide +kernel
theorem dX6_at_154 : decode cX6_at 154 = .ok (.goto 5, 3) := by decide +kernel
theorem dX6_at_157 : decode cX6_at 157 = .ok (.iload 7, 2) := by decide +kernel
theorem dX6_at_159 : decode cX6_at 159 = .ok (.istore 7, 2) := by decide +kernel
theorem dX6_at_161 : decode cX6_at 161 = .ok (.iload 5, 2) := by decide +kernel
theorem dX6_at_163 : decode cX6_at 163 = .ok (.iload_n 2, 1) := by decide +kernel
theorem dX6_at_164 : decode cX6_at 164 = .ok (.aload_n 0, 1) := by decide +kernel
theorem dX6_at_165 : decode cX6_at 165 = .ok (.iload 8, 2) := by decide +kernel
theorem dX6_at_167 : decode cX6_at 167 = .ok (.invokevirtual 151, 3) := by decide +kernel
theorem dX6_at_170 : decode cX6_at 170 = .ok (.aload_n 0, 1) := by decide +kernel
theorem dX6_at_171 : decode cX6_at 171 = .ok (.iload 8, 2) := by decide +kernel
theorem dX6_at_173 : decode cX6_at 173 = .ok (.invokevirtual 151, 3) := by decide +kernel
theorem dX6_at_176 : decode cX6_at 176 = .ok (.aload_n 0, 1) := by decide +kernel
theorem dX6_at_177 : decode cX6_at 177 = .ok (.iload 8, 2) := by decide +kernel
theorem dX6_at_179 : decode cX6_at 179 = .ok (.invokevirtual 154, 3) := by decide +kernel
theorem dX6_at_182 : decode cX6_at 182 = .ok (.iadd, 1) := by decide +kernel
theorem dX6_at_183 : decode cX6_at 183 = .ok (.iconst 1, 1) := by decide +kernel
theorem dX6_at_184 : decode cX6_at 184 = .ok (.isub, 1) := by decide +kernel
theorem dX6_at_185 : decode cX6_at 185 = .ok (.invokestatic 64, 3) := by decide +kernel
theorem dX6_at_188 : decode cX6_at 188 = .ok (.ifCond .eq 7, 3) := by decide +kernel
theorem dX6_at_191 : decode cX6_at 191 = .ok (.iconst 1, 1) := by decide +kernel
theorem dX6_at_192 : decode cX6_at 192 = .ok (.goto 4, 3) := by decide +kernel
theorem dX6_at_195 : decode cX6_at 195 = .ok (.iconst 0, 1) := by decide +kernel
theorem dX6_at_196 : decode cX6_at 196 = .ok (.iadd, 1) := by decide +kernel
theorem dX6_at_197 : decode cX6_at 197 = .ok (.istore 5, 2) := by decide +kernel
theorem dX6_at_199 : decode cX6_at 199 = .ok (.iinc 8 1, 3) := by decide +kernel
theorem dX6_at_202 : decode cX6_at 202 = .ok (.goto (-154), 3) := by decide +kernel
theorem dX6_at_205 : decode cX6_at 205 = .ok (.aload_n 0, 1) := by decide +kernel
theorem dX6_at_206 : decode cX6_at 206 = .ok (.iload_n 3, 1) := by decide +kernel
theorem dX6_at_207 : decode cX6_at 207 = .ok (.ifCond .ne 8, 3) := by decide +kernel
theorem dX6_at_210 : decode cX6_at 210 = .ok (.iload 4, 2) := by decide +kernel
theorem dX6_at_212 : decode cX6_at 212 = .ok (.goto 25, 3) := by decide +kernel
theorem dX6_at_215 : decode cX6_at 215 = .ok (.iload_n 3, 1) := by decide +kernel
theorem dX6_at_216 : decode cX6_at 216 = .ok (.iconst 1, 1) := by decide +kernel
theorem dX6_at_217 : decode cX6_at 217 = .ok (.if_icmp .ne 8, 3) := by decide +kernel
theorem dX6_at_220 : decode cX6_at 220 = .ok (.iload 5, 2) := by decide +kernel
theorem dX6_at_222 : decode cX6_at 222 = .ok (.goto 15, 3) := by decide +kernel
theorem dX6_at_225 : decode cX6_at 225 = .ok (.iload_n 3, 1) := by decide +kernel
theorem dX6_at_226 : decode cX6_at 226 = .ok (.iconst 2, 1) := by decide +kernel
theorem dX6_at_227 : decode cX6_at 227 = .ok (.if_icmp .ne 8, 3) := by decide +kernel
theorem dX6_at_230 : decode cX6_at 230 = .ok (.iload 6, 2) := by decide +kernel
theorem dX6_at_232 : decode cX6_at 232 = .ok (.goto 5, 3) := by decide +kernel
theorem dX6_at_235 : decode cX6_at 235 = .ok (.iload 7, 2) := by decide +kernel
theorem dX6_at_237 : decode cX6_at 237 = .ok (.invokevirtual 71, 3) := by decide +kernel
theorem dX6_at_240 : decode cX6_at 240 = .ok (.ireturn, 1) := by decide +kernel
theorem dX6_refusal_0 : decode cX6_refusal 0 = .ok (.aload_n 0, 1) := by decide +kernel
theorem dX6_refusal_1 : decode cX6_refusal 1 = .ok (.getfield 39, 3) := by decide +kernel
theorem dX6_refusal_4 : decode cX6_refusal 4 = .ok (.ifCond .ne 11, 3) := by decide +kernel
theorem dX6_refusal_7 : decode cX6_refusal 7 = .ok (.aload_n 0, 1) := by decide +kernel
theorem dX6_refusal_8 : decode cX6_refusal 8 = .ok (.iconst 1, 1) := by decide +kernel
theorem dX6_refusal_9 : decode cX6_refusal 9 = .ok (.invokevirtual 45, 3) := by decide +kernel
theorem dX6_refusal_12 : decode cX6_refusal 12 = .ok (.goto 22, 3) := by decide +kernel
theorem dX6_refusal_15 : decode cX6_refusal 15 = .ok (.aload_n 0, 1) := by decide +kernel
theorem dX6_refusal_16 : decode cX6_refusal 16 = .ok (.iload_n 1, 1) := by decide +kernel
theorem dX6_refusal_17 : decode cX6_refusal 17 = .ok (.ifCond .eq 10, 3) := by decide +kernel
theorem dX6_refusal_20 : decode cX6_refusal 20 = .ok (.aload_n 0, 1) := by decide +kernel
theorem dX6_refusal_21 : decode cX6_refusal 21 = .ok (.getfield 42, 3) := by decide +kernel
theorem dX6_refusal_24 : decode cX6_refusal 24 = .ok (.goto 7, 3) := by decide +kernel
theorem dX6_refusal_27 : decode cX6_refusal 27 = .ok (.aload_n 0, 1) := by decide +kernel
theorem dX6_refusal_28 : decode cX6_refusal 28 = .ok (.getfield 39, 3) := by decide +kernel
theorem dX6_refusal_31 : decode cX6_refusal 31 = .ok (.invokevirtual 71, 3) := by decide +kernel
theorem dX6_refusal_34 : decode cX6_refusal 34 = .ok (.ireturn, 1) := by decide +kernel
theorem dX6_advance_0 : decode cX6_advance 0 = .ok (.iload_n 1, 1) := by decide +kernel
theorem dX6_advance_1 : decode cX6_advance 1 = .ok (.iconst 1, 1) := by decide +kernel
theorem dX6_advance_2 : decode cX6_advance 2 = .ok (.bipush 30, 2) := by decide +kernel
theorem dX6_advance_4 : decode cX6_advance 4 = .ok (.invokestatic 64, 3) := by decide +kernel
theorem dX6_advance_7 : decode cX6_advance 7 = .ok (.ifCond .eq 16, 3) := by decide +kernel
theorem dX6_advance_10 : decode cX6_advance 10 = .ok (.aload_n 0, 1) := by decide +kernel
theorem dX6_advance_11 : decode cX6_advance 11 = .ok (.getfield 9, 3) := by decide +kernel
theorem dX6_advance_14 : decode cX6_advance 14 = .ok (.iconst 0, 1) := by decide +kernel
theorem dX6_advance_15 : decode cX6_advance 15 = .ok (.iaload, 1) := by decide +kernel
theorem dX6_advance_16 : decode cX6_advance 16 = .ok (.iload_n 1, 1) := by decide +kernel
theorem dX6_advance_17 : decode cX6_advance 17 = .ok (.iadd, 1) := by decide +kernel
theorem dX6_advance_18 : decode cX6_advance 18 = .ok (.bipush 60, 2) := by decide +kernel
theorem dX6_advance_20 : decode cX6_advance 20 = .ok (.if_icmp .lt 9, 3) := by decide +kernel
theorem dX6_advance_23 : decode cX6_advance 23 = .ok (.aload_n 0, 1) := by decide +kernel
theorem dX6_advance_24 : decode cX6_advance 24 = .ok (.iconst 1, 1) := by decide +kernel
theorem dX6_advance_25 : decode cX6_advance 25 = .ok (.invokevirtual 45, 3) := by decide +kernel
theorem dX6_advance_28 : decode cX6_advance 28 = .ok (.ireturn, 1) := by decide +kernel
theorem dX6_advance_29 : decode cX6_advance 29 = .ok (.aload_n 0, 1) := by decide +kernel
theorem dX6_advance_30 : decode cX6_advance 30 = .ok (.invokevirtual 68, 3) := by decide +kernel
theorem dX6_advance_33 : decode cX6_advance 33 = .ok (.aload_n 0, 1) := by decide +kernel
theorem dX6_advance_34 : decode cX6_advance 34 = .ok (.getfield 9, 3) := by decide +kernel
theorem dX6_advance_37 : decode cX6_advance 37 = .ok (.iconst 0, 1) := by decide +kernel
theorem dX6_advance_38 : decode cX6_advance 38 = .ok (.dup2, 1) := by decide +kernel
theorem dX6_advance_39 : decode cX6_advance 39 = .ok (.iaload, 1) := by decide +kernel
theorem dX6_advance_40 : decode cX6_advance 40 = .ok (.iload_n 1, 1) := by decide +kernel
theorem dX6_advance_41 : decode cX6_advance 41 = .ok (.iadd, 1) := by decide +kernel
theorem dX6_advance_42 : decode cX6_advance 42 = .ok (.iastore, 1) := by decide +kernel
theorem dX6_advance_43 : decode cX6_advance 43 = .ok (.aload_n 0, 1) := by decide +kernel
theorem dX6_advance_44 : decode cX6_advance 44 = .ok (.aload_n 0, 1) := by decide +kernel
theorem dX6_advance_45 : decode cX6_advance 45 = .ok (.getfield 9, 3) := by decide +kernel
theorem dX6_advance_48 : decode cX6_advance 48 = .ok (.iconst 0, 1) := by decide +kernel
theorem dX6_advance_49 : decode cX6_advance 49 = .ok (.iaload, 1) := by decide +kernel
theorem dX6_advance_50 : decode cX6_advance 50 = .ok (.invokevirtual 71, 3) := by decide +kernel
theorem dX6_advance_53 : decode cX6_advance 53 = .ok (.ireturn, 1) := by decide +kernel
theorem dX6_sumOf_0 : decode cX6_sumOf 0 = .ok (.iconst 0, 1) := by decide +kernel
theorem dX6_sumOf_1 : decode cX6_sumOf 1 = .ok (.istore_n 2, 1) := by decide +kernel
theorem dX6_sumOf_2 : decode cX6_sumOf 2 = .ok (.iconst 0, 1) := by decide +kernel
theorem dX6_sumOf_3 : decode cX6_sumOf 3 = .ok (.istore_n 3, 1) := by decide +kernel
theorem dX6_sumOf_4 : decode cX6_sumOf 4 = .ok (.iload_n 3, 1) := by decide +kernel
theorem dX6_sumOf_5 : decode cX6_sumOf 5 = .ok (.aload_n 0, 1) := by decide +kernel
theorem dX6_sumOf_6 : decode cX6_sumOf 6 = .ok (.getfield 9, 3) := by decide +kernel
theorem dX6_sumOf_9 : decode cX6_sumOf 9 = .ok (.iconst 4, 1) := by decide +kernel
theorem dX6_sumOf_10 : decode cX6_sumOf 10 = .ok (.iaload, 1) := by decide +kernel
theorem dX6_sumOf_11 : decode cX6_sumOf 11 = .ok (.if_icmp .ge 92, 3) := by decide +kernel
theorem dX6_sumOf_14 : decode cX6_sumOf 14 = .ok (.iload_n 1, 1) := by decide +kernel
theorem dX6_sumOf_15 : decode cX6_sumOf 15 = .ok (.iconst 4, 1) := by decide +kernel
theorem dX6_sumOf_16 : decode cX6_sumOf 16 = .ok (.if_icmp .ne 22, 3) := by decide +kernel
theorem dX6_sumOf_19 : decode cX6_sumOf 19 = .ok (.iload_n 2, 1) := by decide +kernel
theorem dX6_sumOf_20 : decode cX6_sumOf 20 = .ok (.aload_n 0, 1) := by decide +kernel
theorem dX6_sumOf_21 : decode cX6_sumOf 21 = .ok (.iload_n 3, 1) := by decide +kernel
theorem dX6_sumOf_22 : decode cX6_sumOf 22 = .ok (.invokevirtual 107, 3) := by decide +kernel
theorem dX6_sumOf_25 : decode cX6_sumOf 25 = .ok (.ifCond .eq 7, 3) := by decide +kernel
theorem dX6_sumOf_28 : decode cX6_sumOf 28 = .ok (.iconst 0, 1) := by decide +kernel
theorem dX6_sumOf_29 : decode cX6_sumOf 29 = .ok (.goto 4, 3) := by decide +kernel
theorem dX6_sumOf_32 : decode cX6_sumOf 32 = .ok (.iconst 1, 1) := by decide +kernel
theorem dX6_sumOf_33 : decode cX6_sumOf 33 = .ok (.iadd, 1) := by decide +kernel
theorem dX6_sumOf_34 : decode cX6_sumOf 34 = .ok (.istore_n 2, 1) := by decide +kernel
theorem dX6_sumOf_35 : decode cX6_sumOf 35 = .ok (.goto 62, 3) := by decide +kernel
theorem dX6_sumOf_38 : decode cX6_sumOf 38 = .ok (.aload_n 0, 1) := by decide +kernel
theorem dX6_sumOf_39 : decode cX6_sumOf 39 = .ok (.iload_n 3, 1) := by decide +kernel
theorem dX6_sumOf_40 : decode cX6_sumOf 40 = .ok (.invokevirtual 107, 3) := by decide +kernel
theorem dX6_sumOf_43 : decode cX6_sumOf 43 = .ok (.ifCond .eq 54, 3) := by decide +kernel
theorem dX6_sumOf_46 : decode cX6_sumOf 46 = .ok (.iload_n 2, 1) := by decide +kernel
theorem dX6_sumOf_47 : decode cX6_sumOf 47 = .ok (.iload_n 1, 1) := by decide +kernel
theorem dX6_sumOf_48 : decode cX6_sumOf 48 = .ok (.iconst 5, 1) := by decide +kernel
theorem dX6_sumOf_49 : decode cX6_sumOf 49 = .ok (.if_icmp .ne 13, 3) := by decide +kernel
theorem dX6_sumOf_52 : decode cX6_sumOf 52 = .ok (.aload_n 0, 1) := by decide +kernel
theorem dX6_sumOf_53 : decode cX6_sumOf 53 = .ok (.iload_n 3, 1) := by decide +kernel
theorem dX6_sumOf_54 : decode cX6_sumOf 54 = .ok (.bipush 7, 2) := by decide +kernel
theorem dX6_sumOf_56 : decode cX6_sumOf 56 = .ok (.invokevirtual 89, 3) := by decide +kernel
theorem dX6_sumOf_59 : decode cX6_sumOf 59 = .ok (.goto 36, 3) := by decide +kernel
theorem dX6_sumOf_62 : decode cX6_sumOf 62 = .ok (.iload_n 1, 1) := by decide +kernel
theorem dX6_sumOf_63 : decode cX6_sumOf 63 = .ok (.bipush 6, 2) := by decide +kernel
theorem dX6_sumOf_65 : decode cX6_sumOf 65 = .ok (.if_icmp .ne 11, 3) := by decide +kernel
theorem dX6_sumOf_68 : decode cX6_sumOf 68 = .ok (.aload_n 0, 1) := by decide +kernel
theorem dX6_sumOf_69 : decode cX6_sumOf 69 = .ok (.iload_n 3, 1) := by decide +kernel
theorem dX6_sumOf_70 : decode cX6_sumOf 70 = .ok (.invokevirtual 98, 3) := by decide +kernel
theorem dX6_sumOf_73 : decode cX6_sumOf 73 = .ok (.goto 22, 3) := by decide +kernel
theorem dX6_sumOf_76 : decode cX6_sumOf 76 = .ok (.iload_n 1, 1) := by decide +kernel
theorem dX6_sumOf_77 : decode cX6_sumOf 77 = .ok (.bipush 7, 2) := by decide +kernel
theorem dX6_sumOf_79 : decode cX6_sumOf 79 = .ok (.if_icmp .ne 11, 3) := by decide +kernel
theorem dX6_sumOf_82 : decode cX6_sumOf 82 = .ok (.aload_n 0, 1) := by decide +kernel
theorem dX6_sumOf_83 : decode cX6_sumOf 83 = .ok (.iload_n 3, 1) := by decide +kernel
theorem dX6_sumOf_84 : decode cX6_sumOf 84 = .ok (.invokevirtual 110, 3) := by decide +kernel
theorem dX6_sumOf_87 : decode cX6_sumOf 87 = .ok (.goto 8, 3) := by decide +kernel
theorem dX6_sumOf_90 : decode cX6_sumOf 90 = .ok (.aload_n 0, 1) := by decide +kernel
theorem dX6_sumOf_91 : decode cX6_sumOf 91 = .ok (.iload_n 3, 1) := by decide +kernel
theorem dX6_sumOf_92 : decode cX6_sumOf 92 = .ok (.invokevirtual 92, 3) := by decide +kernel
theorem dX6_sumOf_95 : decode cX6_sumOf 95 = .ok (.iadd, 1) := by decide +kernel
theorem dX6_sumOf_96 : decode cX6_sumOf 96 = .ok (.istore_n 2, 1) := by decide +kernel
theorem dX6_sumOf_97 : decode cX6_sumOf 97 = .ok (.iinc 3 1, 3) := by decide +kernel
theorem dX6_sumOf_100 : decode cX6_sumOf 100 = .ok (.goto (-96), 3) := by decide +kernel
theorem dX6_sumOf_103 : decode cX6_sumOf 103 = .ok (.iload_n 2, 1) := by decide +kernel
theorem dX6_sumOf_104 : decode cX6_sumOf 104 = .ok (.ireturn, 1) := by decide +kernel
theorem dX6_account_0 : decode cX6_account 0 = .ok (.iload_n 1, 1) := by decide +kernel
theorem dX6_account_1 : decode cX6_account 1 = .ok (.iconst 0, 1) := by decide +kernel
theorem dX6_account_2 : decode cX6_account 2 = .ok (.bipush 11, 2) := by decide +kernel
theorem dX6_account_4 : decode cX6_account 4 = .ok (.invokestatic 64, 3) := by decide +kernel
theorem dX6_account_7 : decode cX6_account 7 = .ok (.ifCond .ne 9, 3) := by decide +kernel
theorem dX6_account_10 : decode cX6_account 10 = .ok (.aload_n 0, 1) := by decide +kernel
theorem dX6_account_11 : decode cX6_account 11 = .ok (.iconst 1, 1) := by decide +kernel
theorem dX6_account_12 : decode cX6_account 12 = .ok (.invokevirtual 45, 3) := by decide +kernel
theorem dX6_account_15 : decode cX6_account 15 = .ok (.ireturn, 1) := by decide +kernel
theorem dX6_account_16 : decode cX6_account 16 = .ok (.iload_n 1, 1) := by decide +kernel
theorem dX6_account_17 : decode cX6_account 17 = .ok (.iconst 4, 1) := by decide +kernel
theorem dX6_account_18 : decode cX6_account 18 = .ok (.if_icmp .ge 16, 3) := by decide +kernel
theorem dX6_account_21 : decode cX6_account 21 = .ok (.aload_n 0, 1) := by decide +kernel
theorem dX6_account_22 : decode cX6_account 22 = .ok (.aload_n 0, 1) := by decide +kernel
theorem dX6_account_23 : decode cX6_account 23 = .ok (.getfield 9, 3) := by decide +kernel
theorem dX6_account_26 : decode cX6_account 26 = .ok (.iconst 1, 1) := by decide +kernel
theorem dX6_account_27 : decode cX6_account 27 = .ok (.iload_n 1, 1) := by decide +kernel
theorem dX6_account_28 : decode cX6_account 28 = .ok (.iadd, 1) := by decide +kernel
theorem dX6_account_29 : decode cX6_account 29 = .ok (.iaload, 1) := by decide +kernel
theorem dX6_account_30 : decode cX6_account 30 = .ok (.invokevirtual 71, 3) := by decide +kernel
theorem dX6_account_33 : decode cX6_account 33 = .ok (.ireturn, 1) := by decide +kernel
theorem dX6_account_34 : decode cX6_account 34 = .ok (.aload_n 0, 1) := by decide +kernel
theorem dX6_account_35 : decode cX6_account 35 = .ok (.iload_n 1, 1) := by decide +kernel
theorem dX6_account_36 : decode cX6_account 36 = .ok (.bipush 8, 2) := by decide +kernel
theorem dX6_account_38 : decode cX6_account 38 = .ok (.if_icmp .ne 19, 3) := by decide +kernel
theorem dX6_account_41 : decode cX6_account 41 = .ok (.aload_n 0, 1) := by decide +kernel
theorem dX6_account_42 : decode cX6_account 42 = .ok (.bipush 6, 2) := by decide +kernel
theorem dX6_account_44 : decode cX6_account 44 = .ok (.invokevirtual 233, 3) := by decide +kernel
theorem dX6_account_47 : decode cX6_account 47 = .ok (.aload_n 0, 1) := by decide +kernel
theorem dX6_account_48 : decode cX6_account 48 = .ok (.bipush 7, 2) := by decide +kernel
theorem dX6_account_50 : decode cX6_account 50 = .ok (.invokevirtual 233, 3) := by decide +kernel
theorem dX6_account_53 : decode cX6_account 53 = .ok (.isub, 1) := by decide +kernel
theorem dX6_account_54 : decode cX6_account 54 = .ok (.goto 38, 3) := by decide +kernel
theorem dX6_account_57 : decode cX6_account 57 = .ok (.iload_n 1, 1) := by decide +kernel
theorem dX6_account_58 : decode cX6_account 58 = .ok (.bipush 9, 2) := by decide +kernel
theorem dX6_account_60 : decode cX6_account 60 = .ok (.if_icmp .ne 12, 3) := by decide +kernel
theorem dX6_account_63 : decode cX6_account 63 = .ok (.aload_n 0, 1) := by decide +kernel
theorem dX6_account_64 : decode cX6_account 64 = .ok (.getfield 9, 3) := by decide +kernel
theorem dX6_account_67 : decode cX6_account 67 = .ok (.iconst 5, 1) := by decide +kernel
theorem dX6_account_68 : decode cX6_account 68 = .ok (.iaload, 1) := by decide +kernel
theorem dX6_account_69 : decode cX6_account 69 = .ok (.goto 23, 3) := by decide +kernel
theorem dX6_account_72 : decode cX6_account 72 = .ok (.iload_n 1, 1) := by decide +kernel
theorem dX6_account_73 : decode cX6_account 73 = .ok (.bipush 11, 2) := by decide +kernel
theorem dX6_account_75 : decode cX6_account 75 = .ok (.if_icmp .ne 12, 3) := by decide +kernel
theorem dX6_account_78 : decode cX6_account 78 = .ok (.aload_n 0, 1) := by decide +kernel
theorem dX6_account_79 : decode cX6_account 79 = .ok (.getfield 9, 3) := by decide +kernel
theorem dX6_account_82 : decode cX6_account 82 = .ok (.iconst 0, 1) := by decide +kernel
theorem dX6_account_83 : decode cX6_account 83 = .ok (.iaload, 1) := by decide +kernel
theorem dX6_account_84 : decode cX6_account 84 = .ok (.goto 8, 3) := by decide +kernel
theorem dX6_account_87 : decode cX6_account 87 = .ok (.aload_n 0, 1) := by decide +kernel
theorem dX6_account_88 : decode cX6_account 88 = .ok (.iload_n 1, 1) := by decide +kernel
theorem dX6_account_89 : decode cX6_account 89 = .ok (.invokevirtual 233, 3) := by decide +kernel
theorem dX6_account_92 : decode cX6_account 92 = .ok (.invokevirtual 71, 3) := by decide +kernel
theorem dX6_account_95 : decode cX6_account 95 = .ok (.ireturn, 1) := by decide +kernel
theorem dX6_bestFilm_0 : decode cX6_bestFilm 0 = .ok (.iconst (-1), 1) := by decide +kernel
theorem dX6_bestFilm_1 : decode cX6_bestFilm 1 = .ok (.istore_n 1, 1) := by decide +kernel
theorem dX6_bestFilm_2 : decode cX6_bestFilm 2 = .ok (.iconst 0, 1) := by decide +kernel
theorem dX6_bestFilm_3 : decode cX6_bestFilm 3 = .ok (.istore_n 2, 1) := by decide +kernel
theorem dX6_bestFilm_4 : decode cX6_bestFilm 4 = .ok (.iconst 0, 1) := by decide +kernel
theorem dX6_bestFilm_5 : decode cX6_bestFilm 5 = .ok (.istore_n 3, 1) := by decide +kernel
theorem dX6_bestFilm_6 : decode cX6_bestFilm 6 = .ok (.iload_n 3, 1) := by decide +kernel
theorem dX6_bestFilm_7 : decode cX6_bestFilm 7 = .ok (.aload_n 0, 1) := by decide +kernel
theorem dX6_bestFilm_8 : decode cX6_bestFilm 8 = .ok (.getfield 9, 3) := by decide +kernel
theorem dX6_bestFilm_11 : decode cX6_bestFilm 11 = .ok (.iconst 2, 1) := by decide +kernel
theorem dX6_bestFilm_12 : decode cX6_bestFilm 12 = .ok (.iaload, 1) := by decide +kernel
theorem dX6_bestFilm_13 : decode cX6_bestFilm 13 = .ok (.if_icmp .ge 34, 3) := by decide +kernel
theorem dX6_bestFilm_16 : decode cX6_bestFilm 16 = .ok (.aload_n 0, 1) := by decide +kernel
theorem dX6_bestFilm_17 : decode cX6_bestFilm 17 = .ok (.iload_n 3, 1) := by decide +kernel
theorem dX6_bestFilm_18 : decode cX6_bestFilm 18 = .ok (.bipush 6, 2) := by decide +kernel
theorem dX6_bestFilm_20 : decode cX6_bestFilm 20 = .ok (.invokevirtual 236, 3) := by decide +kernel
theorem dX6_bestFilm_23 : decode cX6_bestFilm 23 = .ok (.istore 4, 2) := by decide +kernel
theorem dX6_bestFilm_25 : decode cX6_bestFilm 25 = .ok (.iload_n 1, 1) := by decide +kernel
theorem dX6_bestFilm_26 : decode cX6_bestFilm 26 = .ok (.iconst (-1), 1) := by decide +kernel
theorem dX6_bestFilm_27 : decode cX6_bestFilm 27 = .ok (.if_icmp .eq 9, 3) := by decide +kernel
theorem dX6_bestFilm_30 : decode cX6_bestFilm 30 = .ok (.iload 4, 2) := by decide +kernel
theorem dX6_bestFilm_32 : decode cX6_bestFilm 32 = .ok (.iload_n 2, 1) := by decide +kernel
theorem dX6_bestFilm_33 : decode cX6_bestFilm 33 = .ok (.if_icmp .le 8, 3) := by decide +kernel
theorem dX6_bestFilm_36 : decode cX6_bestFilm 36 = .ok (.iload_n 3, 1) := by decide +kernel
theorem dX6_bestFilm_37 : decode cX6_bestFilm 37 = .ok (.istore_n 1, 1) := by decide +kernel
theorem dX6_bestFilm_38 : decode cX6_bestFilm 38 = .ok (.iload 4, 2) := by decide +kernel
theorem dX6_bestFilm_40 : decode cX6_bestFilm 40 = .ok (.istore_n 2, 1) := by decide +kernel
theorem dX6_bestFilm_41 : decode cX6_bestFilm 41 = .ok (.iinc 3 1, 3) := by decide +kernel
theorem dX6_bestFilm_44 : decode cX6_bestFilm 44 = .ok (.goto (-38), 3) := by decide +kernel
theorem dX6_bestFilm_47 : decode cX6_bestFilm 47 = .ok (.iload_n 1, 1) := by decide +kernel
theorem dX6_bestFilm_48 : decode cX6_bestFilm 48 = .ok (.iconst (-1), 1) := by decide +kernel
theorem dX6_bestFilm_49 : decode cX6_bestFilm 49 = .ok (.if_icmp .ne 11, 3) := by decide +kernel
theorem dX6_bestFilm_52 : decode cX6_bestFilm 52 = .ok (.aload_n 0, 1) := by decide +kernel
theorem dX6_bestFilm_53 : decode cX6_bestFilm 53 = .ok (.iconst 1, 1) := by decide +kernel
theorem dX6_bestFilm_54 : decode cX6_bestFilm 54 = .ok (.invokevirtual 45, 3) := by decide +kernel
theorem dX6_bestFilm_57 : decode cX6_bestFilm 57 = .ok (.goto 8, 3) := by decide +kernel
theorem dX6_bestFilm_60 : decode cX6_bestFilm 60 = .ok (.aload_n 0, 1) := by decide +kernel
theorem dX6_bestFilm_61 : decode cX6_bestFilm 61 = .ok (.iload_n 1, 1) := by decide +kernel
theorem dX6_bestFilm_62 : decode cX6_bestFilm 62 = .ok (.invokevirtual 71, 3) := by decide +kernel
theorem dX6_bestFilm_65 : decode cX6_bestFilm 65 = .ok (.ireturn, 1) := by decide +kernel
theorem dX6_use_0 : decode cX6_use 0 = .ok (.iconst 0, 1) := by decide +kernel
theorem dX6_use_1 : decode cX6_use 1 = .ok (.istore_n 1, 1) := by decide +kernel
theorem dX6_use_2 : decode cX6_use 2 = .ok (.iconst 0, 1) := by decide +kernel
theorem dX6_use_3 : decode cX6_use 3 = .ok (.istore_n 2, 1) := by decide +kernel
theorem dX6_use_4 : decode cX6_use 4 = .ok (.iload_n 2, 1) := by decide +kernel
theorem dX6_use_5 : decode cX6_use 5 = .ok (.aload_n 0, 1) := by decide +kernel
theorem dX6_use_6 : decode cX6_use 6 = .ok (.getfield 9, 3) := by decide +kernel
theorem dX6_use_9 : decode cX6_use 9 = .ok (.iconst 4, 1) := by decide +kernel
theorem dX6_use_10 : decode cX6_use 10 = .ok (.iaload, 1) := by decide +kernel
theorem dX6_use_11 : decode cX6_use 11 = .ok (.if_icmp .ge 35, 3) := by decide +kernel
theorem dX6_use_14 : decode cX6_use 14 = .ok (.iload_n 1, 1) := by decide +kernel
theorem dX6_use_15 : decode cX6_use 15 = .ok (.aload_n 0, 1) := by decide +kernel
theorem dX6_use_16 : decode cX6_use 16 = .ok (.iload_n 2, 1) := by decide +kernel
theorem dX6_use_17 : decode cX6_use 17 = .ok (.invokevirtual 107, 3) := by decide +kernel
theorem dX6_use_20 : decode cX6_use 20 = .ok (.ifCond .eq 17, 3) := by decide +kernel
theorem dX6_use_23 : decode cX6_use 23 = .ok (.aload_n 0, 1) := by decide +kernel
theorem dX6_use_24 : decode cX6_use 24 = .ok (.aload_n 0, 1) := by decide +kernel
theorem dX6_use_25 : decode cX6_use 25 = .ok (.iload_n 2, 1) := by decide +kernel
theorem dX6_use_26 : decode cX6_use 26 = .ok (.iconst 0, 1) := by decide +kernel
theorem dX6_use_27 : decode cX6_use 27 = .ok (.invokevirtual 89, 3) := by decide +kernel
theorem dX6_use_30 : decode cX6_use 30 = .ok (.iconst 0, 1) := by decide +kernel
theorem dX6_use_31 : decode cX6_use 31 = .ok (.invokevirtual 95, 3) := by decide +kernel
theorem dX6_use_34 : decode cX6_use 34 = .ok (.goto 4, 3) := by decide +kernel
theorem dX6_use_37 : decode cX6_use 37 = .ok (.iconst 0, 1) := by decide +kernel
theorem dX6_use_38 : decode cX6_use 38 = .ok (.iadd, 1) := by decide +kernel
theorem dX6_use_39 : decode cX6_use 39 = .ok (.istore_n 1, 1) := by decide +kernel
theorem dX6_use_40 : decode cX6_use 40 = .ok (.iinc 2 1, 3) := by decide +kernel
theorem dX6_use_43 : decode cX6_use 43 = .ok (.goto (-39), 3) := by decide +kernel
theorem dX6_use_46 : decode cX6_use 46 = .ok (.iload_n 1, 1) := by decide +kernel
theorem dX6_use_47 : decode cX6_use 47 = .ok (.ifCond .ne 10, 3) := by decide +kernel
theorem dX6_use_50 : decode cX6_use 50 = .ok (.aload_n 0, 1) := by decide +kernel
theorem dX6_use_51 : decode cX6_use 51 = .ok (.iconst 1, 1) := by decide +kernel
theorem dX6_use_52 : decode cX6_use 52 = .ok (.putfield 36, 3) := by decide +kernel
theorem dX6_use_55 : decode cX6_use 55 = .ok (.dconst 0, 1) := by decide +kernel
theorem dX6_use_56 : decode cX6_use 56 = .ok (.dreturn, 1) := by decide +kernel
theorem dX6_use_57 : decode cX6_use 57 = .ok (.aload_n 0, 1) := by decide +kernel
theorem dX6_use_58 : decode cX6_use 58 = .ok (.iconst 0, 1) := by decide +kernel
theorem dX6_use_59 : decode cX6_use 59 = .ok (.putfield 36, 3) := by decide +kernel
theorem dX6_use_62 : decode cX6_use 62 = .ok (.aload_n 0, 1) := by decide +kernel
theorem dX6_use_63 : decode cX6_use 63 = .ok (.iconst 5, 1) := by decide +kernel
theorem dX6_use_64 : decode cX6_use 64 = .ok (.invokevirtual 233, 3) := by decide +kernel
theorem dX6_use_67 : decode cX6_use 67 = .ok (.i2d, 1) := by decide +kernel
theorem dX6_use_68 : decode cX6_use 68 = .ok (.iload_n 1, 1) := by decide +kernel
theorem dX6_use_69 : decode cX6_use 69 = .ok (.i2d, 1) := by decide +kernel
theorem dX6_use_70 : decode cX6_use 70 = .ok (.ddiv, 1) := by decide +kernel
theorem dX6_use_71 : decode cX6_use 71 = .ok (.dreturn, 1) := by decide +kernel
theorem dX6_writesLetter_0 : decode cX6_writesLetter 0 = .ok (.aload_n 0, 1) := by decide +kernel
theorem dX6_writesLetter_1 : decode cX6_writesLetter 1 = .ok (.getfield 30, 3) := by decide +kernel
theorem dX6_writesLetter_4 : decode cX6_writesLetter 4 = .ok (.aload_n 0, 1) := by decide +kernel
theorem dX6_writesLetter_5 : decode cX6_writesLetter 5 = .ok (.getfield 239, 3) := by decide +kernel
theorem dX6_writesLetter_8 : decode cX6_writesLetter 8 = .ok (.iload_n 1, 1) := by decide +kernel
theorem dX6_writesLetter_9 : decode cX6_writesLetter 9 = .ok (.castore, 1) := by decide +kernel
theorem dX6_writesLetter_10 : decode cX6_writesLetter 10 = .ok (.aload_n 0, 1) := by decide +kernel
theorem dX6_writesLetter_11 : decode cX6_writesLetter 11 = .ok (.dup, 1) := by decide +kernel
theorem dX6_writesLetter_12 : decode cX6_writesLetter 12 = .ok (.getfield 239, 3) := by decide +kernel
theorem dX6_writesLetter_15 : decode cX6_writesLetter 15 = .ok (.iconst 1, 1) := by decide +kernel
theorem dX6_writesLetter_16 : decode cX6_writesLetter 16 = .ok (.iadd, 1) := by decide +kernel
theorem dX6_writesLetter_17 : decode cX6_writesLetter 17 = .ok (.putfield 239, 3) := by decide +kernel
theorem dX6_writesLetter_20 : decode cX6_writesLetter 20 = .ok (.return_, 1) := by decide +kernel
theorem dX6_writesWord_0 : decode cX6_writesWord 0 = .ok (.iconst 0, 1) := by decide +kernel
theorem dX6_writesWord_1 : decode cX6_writesWord 1 = .ok (.istore_n 2, 1) := by decide +kernel
theorem dX6_writesWord_2 : decode cX6_writesWord 2 = .ok (.iload_n 2, 1) := by decide +kernel
theorem dX6_writesWord_3 : decode cX6_writesWord 3 = .ok (.aload_n 1, 1) := by decide +kernel
theorem dX6_writesWord_4 : decode cX6_writesWord 4 = .ok (.invokevirtual 242, 3) := by decide +kernel
theorem dX6_writesWord_7 : decode cX6_writesWord 7 = .ok (.if_icmp .ge 18, 3) := by decide +kernel
theorem dX6_writesWord_10 : decode cX6_writesWord 10 = .ok (.aload_n 0, 1) := by decide +kernel
theorem dX6_writesWord_11 : decode cX6_writesWord 11 = .ok (.aload_n 1, 1) := by decide +kernel
theorem dX6_writesWord_12 : decode cX6_writesWord 12 = .ok (.iload_n 2, 1) := by decide +kernel
theorem dX6_writesWord_13 : decode cX6_writesWord 13 = .ok (.invokevirtual 247, 3) := by decide +kernel
theorem dX6_writesWord_16 : decode cX6_writesWord 16 = .ok (.invokevirtual 251, 3) := by decide +kernel
theorem dX6_writesWord_19 : decode cX6_writesWord 19 = .ok (.iinc 2 1, 3) := by decide +kernel
theorem dX6_writesWord_22 : decode cX6_writesWord 22 = .ok (.goto (-20), 3) := by decide +kernel
theorem dX6_writesWord_25 : decode cX6_writesWord 25 = .ok (.return_, 1) := by decide +kernel
theorem dX6_writesNumber_0 : decode cX6_writesNumber 0 = .ok (.iconst 1, 1) := by decide +kernel
theorem dX6_writesNumber_1 : decode cX6_writesNumber 1 = .ok (.istore_n 2, 1) := by decide +kernel
theorem dX6_writesNumber_2 : decode cX6_writesNumber 2 = .ok (.iload_n 2, 1) := by decide +kernel
theorem dX6_writesNumber_3 : decode cX6_writesNumber 3 = .ok (.bipush 10, 2) := by decide +kernel
theorem dX6_writesNumber_5 : decode cX6_writesNumber 5 = .ok (.imul, 1) := by decide +kernel
theorem dX6_writesNumber_6 : decode cX6_writesNumber 6 = .ok (.iload_n 1, 1) := by decide +kernel
