/-! decode rows -/
theorem dX5_faultOfFail_54 : decode cX5_faultOfFail 54 = .ok (.iconst 3, 1) := by decide +kernel
theorem dX5_faultOfFail_55 : decode cX5_faultOfFail 55 = .ok (.ireturn, 1) := by decide +kernel
theorem dX5_faultOfAdvance_0 : decode cX5_faultOfAdvance 0 = .ok (.iload_n 1, 1) := by decide +kernel
theorem dX5_faultOfAdvance_1 : decode cX5_faultOfAdvance 1 = .ok (.iconst 1, 1) := by decide +kernel
theorem dX5_faultOfAdvance_2 : decode cX5_faultOfAdvance 2 = .ok (.bipush 30, 2) := by decide +kernel
theorem dX5_faultOfAdvance_4 : decode cX5_faultOfAdvance 4 = .ok (.invokestatic 64, 3) := by decide +kernel
theorem dX5_faultOfAdvance_7 : decode cX5_faultOfAdvance 7 = .ok (.ifCond .eq 21, 3) := by decide +kernel
theorem dX5_faultOfAdvance_10 : decode cX5_faultOfAdvance 10 = .ok (.aload_n 0, 1) := by decide +kernel
theorem dX5_faultOfAdvance_11 : decode cX5_faultOfAdvance 11 = .ok (.getfield 10, 3) := by decide +kernel
theorem dX5_faultOfAdvance_14 : decode cX5_faultOfAdvance 14 = .ok (.getfield 330, 3) := by decide +kernel
theorem dX5_faultOfAdvance_17 : decode cX5_faultOfAdvance 17 = .ok (.iload_n 1, 1) := by decide +kernel
theorem dX5_faultOfAdvance_18 : decode cX5_faultOfAdvance 18 = .ok (.iadd, 1) := by decide +kernel
theorem dX5_faultOfAdvance_19 : decode cX5_faultOfAdvance 19 = .ok (.bipush 59, 2) := by decide +kernel
theorem dX5_faultOfAdvance_21 : decode cX5_faultOfAdvance 21 = .ok (.if_icmp .gt 7, 3) := by decide +kernel
theorem dX5_faultOfAdvance_24 : decode cX5_faultOfAdvance 24 = .ok (.iconst 1, 1) := by decide +kernel
theorem dX5_faultOfAdvance_25 : decode cX5_faultOfAdvance 25 = .ok (.goto 4, 3) := by decide +kernel
theorem dX5_faultOfAdvance_28 : decode cX5_faultOfAdvance 28 = .ok (.iconst 0, 1) := by decide +kernel
theorem dX5_faultOfAdvance_29 : decode cX5_faultOfAdvance 29 = .ok (.istore_n 2, 1) := by decide +kernel
theorem dX5_faultOfAdvance_30 : decode cX5_faultOfAdvance 30 = .ok (.iload_n 2, 1) := by decide +kernel
theorem dX5_faultOfAdvance_31 : decode cX5_faultOfAdvance 31 = .ok (.ifCond .eq 7, 3) := by decide +kernel
theorem dX5_faultOfAdvance_34 : decode cX5_faultOfAdvance 34 = .ok (.iconst 0, 1) := by decide +kernel
theorem dX5_faultOfAdvance_35 : decode cX5_faultOfAdvance 35 = .ok (.goto 4, 3) := by decide +kernel
theorem dX5_faultOfAdvance_38 : decode cX5_faultOfAdvance 38 = .ok (.iconst 2, 1) := by decide +kernel
theorem dX5_faultOfAdvance_39 : decode cX5_faultOfAdvance 39 = .ok (.ireturn, 1) := by decide +kernel
theorem dX5_closeHall_0 : decode cX5_closeHall 0 = .ok (.aload_n 0, 1) := by decide +kernel
theorem dX5_closeHall_1 : decode cX5_closeHall 1 = .ok (.getfield 10, 3) := by decide +kernel
theorem dX5_closeHall_4 : decode cX5_closeHall 4 = .ok (.getfield 75, 3) := by decide +kernel
theorem dX5_closeHall_7 : decode cX5_closeHall 7 = .ok (.iload_n 1, 1) := by decide +kernel
theorem dX5_closeHall_8 : decode cX5_closeHall 8 = .ok (.iconst 3, 1) := by decide +kernel
theorem dX5_closeHall_9 : decode cX5_closeHall 9 = .ok (.iload_n 2, 1) := by decide +kernel
theorem dX5_closeHall_10 : decode cX5_closeHall 10 = .ok (.invokevirtual 97, 3) := by decide +kernel
theorem dX5_closeHall_13 : decode cX5_closeHall 13 = .ok (.aload_n 0, 1) := by decide +kernel
theorem dX5_closeHall_14 : decode cX5_closeHall 14 = .ok (.iload_n 1, 1) := by decide +kernel
theorem dX5_closeHall_15 : decode cX5_closeHall 15 = .ok (.iload_n 2, 1) := by decide +kernel
theorem dX5_closeHall_16 : decode cX5_closeHall 16 = .ok (.invokevirtual 434, 3) := by decide +kernel
theorem dX5_closeHall_19 : decode cX5_closeHall 19 = .ok (.iconst 0, 1) := by decide +kernel
theorem dX5_closeHall_20 : decode cX5_closeHall 20 = .ok (.istore_n 3, 1) := by decide +kernel
theorem dX5_closeHall_21 : decode cX5_closeHall 21 = .ok (.iconst 0, 1) := by decide +kernel
theorem dX5_closeHall_22 : decode cX5_closeHall 22 = .ok (.istore 4, 2) := by decide +kernel
theorem dX5_closeHall_24 : decode cX5_closeHall 24 = .ok (.iload 4, 2) := by decide +kernel
theorem dX5_closeHall_26 : decode cX5_closeHall 26 = .ok (.aload_n 0, 1) := by decide +kernel
theorem dX5_closeHall_27 : decode cX5_closeHall 27 = .ok (.getfield 10, 3) := by decide +kernel
theorem dX5_closeHall_30 : decode cX5_closeHall 30 = .ok (.getfield 293, 3) := by decide +kernel
theorem dX5_closeHall_33 : decode cX5_closeHall 33 = .ok (.invokevirtual 79, 3) := by decide +kernel
theorem dX5_closeHall_36 : decode cX5_closeHall 36 = .ok (.if_icmp .ge 43, 3) := by decide +kernel
theorem dX5_closeHall_39 : decode cX5_closeHall 39 = .ok (.aload_n 0, 1) := by decide +kernel
theorem dX5_closeHall_40 : decode cX5_closeHall 40 = .ok (.iload 4, 2) := by decide +kernel
theorem dX5_closeHall_42 : decode cX5_closeHall 42 = .ok (.iload_n 1, 1) := by decide +kernel
theorem dX5_closeHall_43 : decode cX5_closeHall 43 = .ok (.invokevirtual 437, 3) := by decide +kernel
theorem dX5_closeHall_46 : decode cX5_closeHall 46 = .ok (.ifCond .ne 27, 3) := by decide +kernel
theorem dX5_closeHall_49 : decode cX5_closeHall 49 = .ok (.aload_n 0, 1) := by decide +kernel
theorem dX5_closeHall_50 : decode cX5_closeHall 50 = .ok (.getfield 10, 3) := by decide +kernel
theorem dX5_closeHall_53 : decode cX5_closeHall 53 = .ok (.aload_n 0, 1) := by decide +kernel
theorem dX5_closeHall_54 : decode cX5_closeHall 54 = .ok (.getfield 10, 3) := by decide +kernel
theorem dX5_closeHall_57 : decode cX5_closeHall 57 = .ok (.getfield 293, 3) := by decide +kernel
theorem dX5_closeHall_60 : decode cX5_closeHall 60 = .ok (.iload 4, 2) := by decide +kernel
theorem dX5_closeHall_62 : decode cX5_closeHall 62 = .ok (.iconst 0, 1) := by decide +kernel
theorem dX5_closeHall_63 : decode cX5_closeHall 63 = .ok (.invokevirtual 126, 3) := by decide +kernel
theorem dX5_closeHall_66 : decode cX5_closeHall 66 = .ok (.invokevirtual 243, 3) := by decide +kernel
theorem dX5_closeHall_69 : decode cX5_closeHall 69 = .ok (.pop, 1) := by decide +kernel
theorem dX5_closeHall_70 : decode cX5_closeHall 70 = .ok (.iinc 3 1, 3) := by decide +kernel
theorem dX5_closeHall_73 : decode cX5_closeHall 73 = .ok (.iinc 4 1, 3) := by decide +kernel
theorem dX5_closeHall_76 : decode cX5_closeHall 76 = .ok (.goto (-52), 3) := by decide +kernel
theorem dX5_closeHall_79 : decode cX5_closeHall 79 = .ok (.iload_n 3, 1) := by decide +kernel
theorem dX5_closeHall_80 : decode cX5_closeHall 80 = .ok (.ireturn, 1) := by decide +kernel
theorem dX5_takeOutShows_0 : decode cX5_takeOutShows 0 = .ok (.aload_n 0, 1) := by decide +kernel
theorem dX5_takeOutShows_1 : decode cX5_takeOutShows 1 = .ok (.getfield 10, 3) := by decide +kernel
theorem dX5_takeOutShows_4 : decode cX5_takeOutShows 4 = .ok (.getfield 293, 3) := by decide +kernel
theorem dX5_takeOutShows_7 : decode cX5_takeOutShows 7 = .ok (.invokevirtual 440, 3) := by decide +kernel
theorem dX5_takeOutShows_10 : decode cX5_takeOutShows 10 = .ok (.iload_n 2, 1) := by decide +kernel
theorem dX5_takeOutShows_11 : decode cX5_takeOutShows 11 = .ok (.istore_n 3, 1) := by decide +kernel
theorem dX5_takeOutShows_12 : decode cX5_takeOutShows 12 = .ok (.iload_n 3, 1) := by decide +kernel
theorem dX5_takeOutShows_13 : decode cX5_takeOutShows 13 = .ok (.bipush 59, 2) := by decide +kernel
theorem dX5_takeOutShows_15 : decode cX5_takeOutShows 15 = .ok (.if_icmp .gt 182, 3) := by decide +kernel
theorem dX5_takeOutShows_18 : decode cX5_takeOutShows 18 = .ok (.aload_n 0, 1) := by decide +kernel
theorem dX5_takeOutShows_19 : decode cX5_takeOutShows 19 = .ok (.getfield 10, 3) := by decide +kernel
theorem dX5_takeOutShows_22 : decode cX5_takeOutShows 22 = .ok (.iload_n 1, 1) := by decide +kernel
theorem dX5_takeOutShows_23 : decode cX5_takeOutShows 23 = .ok (.iload_n 3, 1) := by decide +kernel
theorem dX5_takeOutShows_24 : decode cX5_takeOutShows 24 = .ok (.iconst (-1), 1) := by decide +kernel
theorem dX5_takeOutShows_25 : decode cX5_takeOutShows 25 = .ok (.invokevirtual 302, 3) := by decide +kernel
theorem dX5_takeOutShows_28 : decode cX5_takeOutShows 28 = .ok (.istore 4, 2) := by decide +kernel
theorem dX5_takeOutShows_30 : decode cX5_takeOutShows 30 = .ok (.iconst 0, 1) := by decide +kernel
theorem dX5_takeOutShows_31 : decode cX5_takeOutShows 31 = .ok (.istore 5, 2) := by decide +kernel
theorem dX5_takeOutShows_33 : decode cX5_takeOutShows 33 = .ok (.iload 5, 2) := by decide +kernel
theorem dX5_takeOutShows_35 : decode cX5_takeOutShows 35 = .ok (.bipush 30, 2) := by decide +kernel
theorem dX5_takeOutShows_37 : decode cX5_takeOutShows 37 = .ok (.if_icmp .ge 154, 3) := by decide +kernel
theorem dX5_takeOutShows_40 : decode cX5_takeOutShows 40 = .ok (.iload 4, 2) := by decide +kernel
theorem dX5_takeOutShows_42 : decode cX5_takeOutShows 42 = .ok (.iconst (-1), 1) := by decide +kernel
theorem dX5_takeOutShows_43 : decode cX5_takeOutShows 43 = .ok (.if_icmp .eq 148, 3) := by decide +kernel
theorem dX5_takeOutShows_46 : decode cX5_takeOutShows 46 = .ok (.aload_n 0, 1) := by decide +kernel
theorem dX5_takeOutShows_47 : decode cX5_takeOutShows 47 = .ok (.getfield 10, 3) := by decide +kernel
theorem dX5_takeOutShows_50 : decode cX5_takeOutShows 50 = .ok (.getfield 210, 3) := by decide +kernel
theorem dX5_takeOutShows_53 : decode cX5_takeOutShows 53 = .ok (.iload 4, 2) := by decide +kernel
theorem dX5_takeOutShows_55 : decode cX5_takeOutShows 55 = .ok (.iconst 3, 1) := by decide +kernel
theorem dX5_takeOutShows_56 : decode cX5_takeOutShows 56 = .ok (.invokevirtual 126, 3) := by decide +kernel
theorem dX5_takeOutShows_59 : decode cX5_takeOutShows 59 = .ok (.istore 6, 2) := by decide +kernel
theorem dX5_takeOutShows_61 : decode cX5_takeOutShows 61 = .ok (.aload_n 0, 1) := by decide +kernel
theorem dX5_takeOutShows_62 : decode cX5_takeOutShows 62 = .ok (.getfield 10, 3) := by decide +kernel
theorem dX5_takeOutShows_65 : decode cX5_takeOutShows 65 = .ok (.getfield 293, 3) := by decide +kernel
theorem dX5_takeOutShows_68 : decode cX5_takeOutShows 68 = .ok (.invokevirtual 94, 3) := by decide +kernel
theorem dX5_takeOutShows_71 : decode cX5_takeOutShows 71 = .ok (.istore 7, 2) := by decide +kernel
theorem dX5_takeOutShows_73 : decode cX5_takeOutShows 73 = .ok (.aload_n 0, 1) := by decide +kernel
theorem dX5_takeOutShows_74 : decode cX5_takeOutShows 74 = .ok (.getfield 10, 3) := by decide +kernel
theorem dX5_takeOutShows_77 : decode cX5_takeOutShows 77 = .ok (.getfield 293, 3) := by decide +kernel
theorem dX5_takeOutShows_80 : decode cX5_takeOutShows 80 = .ok (.iload 7, 2) := by decide +kernel
theorem dX5_takeOutShows_82 : decode cX5_takeOutShows 82 = .ok (.iconst 0, 1) := by decide +kernel
theorem dX5_takeOutShows_83 : decode cX5_takeOutShows 83 = .ok (.iload 4, 2) := by decide +kernel
theorem dX5_takeOutShows_85 : decode cX5_takeOutShows 85 = .ok (.invokevirtual 97, 3) := by decide +kernel
theorem dX5_takeOutShows_88 : decode cX5_takeOutShows 88 = .ok (.aload_n 0, 1) := by decide +kernel
theorem dX5_takeOutShows_89 : decode cX5_takeOutShows 89 = .ok (.getfield 10, 3) := by decide +kernel
theorem dX5_takeOutShows_92 : decode cX5_takeOutShows 92 = .ok (.getfield 293, 3) := by decide +kernel
theorem dX5_takeOutShows_95 : decode cX5_takeOutShows 95 = .ok (.iload 7, 2) := by decide +kernel
theorem dX5_takeOutShows_97 : decode cX5_takeOutShows 97 = .ok (.iconst 1, 1) := by decide +kernel
theorem dX5_takeOutShows_98 : decode cX5_takeOutShows 98 = .ok (.iload 6, 2) := by decide +kernel
theorem dX5_takeOutShows_100 : decode cX5_takeOutShows 100 = .ok (.invokevirtual 97, 3) := by decide +kernel
theorem dX5_takeOutShows_103 : decode cX5_takeOutShows 103 = .ok (.aload_n 0, 1) := by decide +kernel
theorem dX5_takeOutShows_104 : decode cX5_takeOutShows 104 = .ok (.getfield 10, 3) := by decide +kernel
theorem dX5_takeOutShows_107 : decode cX5_takeOutShows 107 = .ok (.getfield 293, 3) := by decide +kernel
theorem dX5_takeOutShows_110 : decode cX5_takeOutShows 110 = .ok (.iload 7, 2) := by decide +kernel
theorem dX5_takeOutShows_112 : decode cX5_takeOutShows 112 = .ok (.iconst 2, 1) := by decide +kernel
theorem dX5_takeOutShows_113 : decode cX5_takeOutShows 113 = .ok (.iconst (-1), 1) := by decide +kernel
theorem dX5_takeOutShows_114 : decode cX5_takeOutShows 114 = .ok (.invokevirtual 97, 3) := by decide +kernel
theorem dX5_takeOutShows_117 : decode cX5_takeOutShows 117 = .ok (.aload_n 0, 1) := by decide +kernel
theorem dX5_takeOutShows_118 : decode cX5_takeOutShows 118 = .ok (.getfield 10, 3) := by decide +kernel
theorem dX5_takeOutShows_121 : decode cX5_takeOutShows 121 = .ok (.getfield 293, 3) := by decide +kernel
theorem dX5_takeOutShows_124 : decode cX5_takeOutShows 124 = .ok (.iload 7, 2) := by decide +kernel
theorem dX5_takeOutShows_126 : decode cX5_takeOutShows 126 = .ok (.iconst 3, 1) := by decide +kernel
theorem dX5_takeOutShows_127 : decode cX5_takeOutShows 127 = .ok (.iconst (-1), 1) := by decide +kernel
theorem dX5_takeOutShows_128 : decode cX5_takeOutShows 128 = .ok (.invokevirtual 97, 3) := by decide +kernel
theorem dX5_takeOutShows_131 : decode cX5_takeOutShows 131 = .ok (.aload_n 0, 1) := by decide +kernel
theorem dX5_takeOutShows_132 : decode cX5_takeOutShows 132 = .ok (.getfield 10, 3) := by decide +kernel
theorem dX5_takeOutShows_135 : decode cX5_takeOutShows 135 = .ok (.getfield 293, 3) := by decide +kernel
theorem dX5_takeOutShows_138 : decode cX5_takeOutShows 138 = .ok (.iload 7, 2) := by decide +kernel
theorem dX5_takeOutShows_140 : decode cX5_takeOutShows 140 = .ok (.iconst 4, 1) := by decide +kernel
theorem dX5_takeOutShows_141 : decode cX5_takeOutShows 141 = .ok (.aload_n 0, 1) := by decide +kernel
theorem dX5_takeOutShows_142 : decode cX5_takeOutShows 142 = .ok (.getfield 10, 3) := by decide +kernel
theorem dX5_takeOutShows_145 : decode cX5_takeOutShows 145 = .ok (.getfield 210, 3) := by decide +kernel
theorem dX5_takeOutShows_148 : decode cX5_takeOutShows 148 = .ok (.iload 4, 2) := by decide +kernel
theorem dX5_takeOutShows_150 : decode cX5_takeOutShows 150 = .ok (.iconst 5, 1) := by decide +kernel
theorem dX5_takeOutShows_151 : decode cX5_takeOutShows 151 = .ok (.invokevirtual 126, 3) := by decide +kernel
theorem dX5_takeOutShows_154 : decode cX5_takeOutShows 154 = .ok (.invokevirtual 97, 3) := by decide +kernel
theorem dX5_takeOutShows_157 : decode cX5_takeOutShows 157 = .ok (.aload_n 0, 1) := by decide +kernel
theorem dX5_takeOutShows_158 : decode cX5_takeOutShows 158 = .ok (.getfield 10, 3) := by decide +kernel
theorem dX5_takeOutShows_161 : decode cX5_takeOutShows 161 = .ok (.getfield 210, 3) := by decide +kernel
theorem dX5_takeOutShows_164 : decode cX5_takeOutShows 164 = .ok (.iload 4, 2) := by decide +kernel
theorem dX5_takeOutShows_166 : decode cX5_takeOutShows 166 = .ok (.bipush 8, 2) := by decide +kernel
theorem dX5_takeOutShows_168 : decode cX5_takeOutShows 168 = .ok (.iconst 1, 1) := by decide +kernel
theorem dX5_takeOutShows_169 : decode cX5_takeOutShows 169 = .ok (.invokevirtual 97, 3) := by decide +kernel
theorem dX5_takeOutShows_172 : decode cX5_takeOutShows 172 = .ok (.aload_n 0, 1) := by decide +kernel
theorem dX5_takeOutShows_173 : decode cX5_takeOutShows 173 = .ok (.getfield 10, 3) := by decide +kernel
theorem dX5_takeOutShows_176 : decode cX5_takeOutShows 176 = .ok (.iload_n 1, 1) := by decide +kernel
theorem dX5_takeOutShows_177 : decode cX5_takeOutShows 177 = .ok (.iload_n 3, 1) := by decide +kernel
theorem dX5_takeOutShows_178 : decode cX5_takeOutShows 178 = .ok (.iload 6, 2) := by decide +kernel
theorem dX5_takeOutShows_180 : decode cX5_takeOutShows 180 = .ok (.invokevirtual 302, 3) := by decide +kernel
theorem dX5_takeOutShows_183 : decode cX5_takeOutShows 183 = .ok (.istore 4, 2) := by decide +kernel
theorem dX5_takeOutShows_185 : decode cX5_takeOutShows 185 = .ok (.iinc 5 1, 3) := by decide +kernel
theorem dX5_takeOutShows_188 : decode cX5_takeOutShows 188 = .ok (.goto (-155), 3) := by decide +kernel
theorem dX5_takeOutShows_191 : decode cX5_takeOutShows 191 = .ok (.iinc 3 1, 3) := by decide +kernel
theorem dX5_takeOutShows_194 : decode cX5_takeOutShows 194 = .ok (.goto (-182), 3) := by decide +kernel
theorem dX5_takeOutShows_197 : decode cX5_takeOutShows 197 = .ok (.return_, 1) := by decide +kernel
theorem dX5_isPlacedAgain_0 : decode cX5_isPlacedAgain 0 = .ok (.aload_n 0, 1) := by decide +kernel
theorem dX5_isPlacedAgain_1 : decode cX5_isPlacedAgain 1 = .ok (.getfield 10, 3) := by decide +kernel
theorem dX5_isPlacedAgain_4 : decode cX5_isPlacedAgain 4 = .ok (.getfield 293, 3) := by decide +kernel
theorem dX5_isPlacedAgain_7 : decode cX5_isPlacedAgain 7 = .ok (.iload_n 1, 1) := by decide +kernel
theorem dX5_isPlacedAgain_8 : decode cX5_isPlacedAgain 8 = .ok (.iconst 0, 1) := by decide +kernel
theorem dX5_isPlacedAgain_9 : decode cX5_isPlacedAgain 9 = .ok (.invokevirtual 126, 3) := by decide +kernel
theorem dX5_isPlacedAgain_12 : decode cX5_isPlacedAgain 12 = .ok (.istore_n 3, 1) := by decide +kernel
theorem dX5_isPlacedAgain_13 : decode cX5_isPlacedAgain 13 = .ok (.aload_n 0, 1) := by decide +kernel
theorem dX5_isPlacedAgain_14 : decode cX5_isPlacedAgain 14 = .ok (.getfield 10, 3) := by decide +kernel
theorem dX5_isPlacedAgain_17 : decode cX5_isPlacedAgain 17 = .ok (.getfield 293, 3) := by decide +kernel
theorem dX5_isPlacedAgain_20 : decode cX5_isPlacedAgain 20 = .ok (.iload_n 1, 1) := by decide +kernel
theorem dX5_isPlacedAgain_21 : decode cX5_isPlacedAgain 21 = .ok (.iconst 1, 1) := by decide +kernel
theorem dX5_isPlacedAgain_22 : decode cX5_isPlacedAgain 22 = .ok (.invokevirtual 126, 3) := by decide +kernel
theorem dX5_isPlacedAgain_25 : decode cX5_isPlacedAgain 25 = .ok (.istore 4, 2) := by decide +kernel
theorem dX5_isPlacedAgain_27 : decode cX5_isPlacedAgain 27 = .ok (.aload_n 0, 1) := by decide +kernel
theorem dX5_isPlacedAgain_28 : decode cX5_isPlacedAgain 28 = .ok (.getfield 10, 3) := by decide +kernel
theorem dX5_isPlacedAgain_31 : decode cX5_isPlacedAgain 31 = .ok (.getfield 293, 3) := by decide +kernel
theorem dX5_isPlacedAgain_34 : decode cX5_isPlacedAgain 34 = .ok (.iload_n 1, 1) := by decide +kernel
theorem dX5_isPlacedAgain_35 : decode cX5_isPlacedAgain 35 = .ok (.iconst 4, 1) := by decide +kernel
theorem dX5_isPlacedAgain_36 : decode cX5_isPlacedAgain 36 = .ok (.invokevirtual 126, 3) := by decide +kernel
theorem dX5_isPlacedAgain_39 : decode cX5_isPlacedAgain 39 = .ok (.istore 5, 2) := by decide +kernel
theorem dX5_isPlacedAgain_41 : decode cX5_isPlacedAgain 41 = .ok (.aload_n 0, 1) := by decide +kernel
theorem dX5_isPlacedAgain_42 : decode cX5_isPlacedAgain 42 = .ok (.getfield 10, 3) := by decide +kernel
theorem dX5_isPlacedAgain_45 : decode cX5_isPlacedAgain 45 = .ok (.iload_n 3, 1) := by decide +kernel
theorem dX5_isPlacedAgain_46 : decode cX5_isPlacedAgain 46 = .ok (.invokevirtual 428, 3) := by decide +kernel
theorem dX5_isPlacedAgain_49 : decode cX5_isPlacedAgain 49 = .ok (.istore 6, 2) := by decide +kernel
theorem dX5_isPlacedAgain_51 : decode cX5_isPlacedAgain 51 = .ok (.aload_n 0, 1) := by decide +kernel
theorem dX5_isPlacedAgain_52 : decode cX5_isPlacedAgain 52 = .ok (.getfield 10, 3) := by decide +kernel
theorem dX5_isPlacedAgain_55 : decode cX5_isPlacedAgain 55 = .ok (.iconst 4, 1) := by decide +kernel
theorem dX5_isPlacedAgain_56 : decode cX5_isPlacedAgain 56 = .ok (.invokevirtual 155, 3) := by decide +kernel
theorem dX5_isPlacedAgain_59 : decode cX5_isPlacedAgain 59 = .ok (.istore 7, 2) := by decide +kernel
theorem dX5_isPlacedAgain_61 : decode cX5_isPlacedAgain 61 = .ok (.aload_n 0, 1) := by decide +kernel
theorem dX5_isPlacedAgain_62 : decode cX5_isPlacedAgain 62 = .ok (.getfield 29, 3) := by decide +kernel
theorem dX5_isPlacedAgain_65 : decode cX5_isPlacedAgain 65 = .ok (.aload_n 0, 1) := by decide +kernel
theorem dX5_isPlacedAgain_66 : decode cX5_isPlacedAgain 66 = .ok (.getfield 10, 3) := by decide +kernel
theorem dX5_isPlacedAgain_69 : decode cX5_isPlacedAgain 69 = .ok (.iload_n 3, 1) := by decide +kernel
theorem dX5_isPlacedAgain_70 : decode cX5_isPlacedAgain 70 = .ok (.aload_n 0, 1) := by decide +kernel
theorem dX5_isPlacedAgain_71 : decode cX5_isPlacedAgain 71 = .ok (.getfield 10, 3) := by decide +kernel
theorem dX5_isPlacedAgain_74 : decode cX5_isPlacedAgain 74 = .ok (.getfield 210, 3) := by decide +kernel
theorem dX5_isPlacedAgain_77 : decode cX5_isPlacedAgain 77 = .ok (.iload_n 3, 1) := by decide +kernel
theorem dX5_isPlacedAgain_78 : decode cX5_isPlacedAgain 78 = .ok (.iconst 1, 1) := by decide +kernel
theorem dX5_isPlacedAgain_79 : decode cX5_isPlacedAgain 79 = .ok (.invokevirtual 126, 3) := by decide +kernel
theorem dX5_isPlacedAgain_82 : decode cX5_isPlacedAgain 82 = .ok (.aload_n 0, 1) := by decide +kernel
theorem dX5_isPlacedAgain_83 : decode cX5_isPlacedAgain 83 = .ok (.getfield 10, 3) := by decide +kernel
theorem dX5_isPlacedAgain_86 : decode cX5_isPlacedAgain 86 = .ok (.getfield 210, 3) := by decide +kernel
theorem dX5_isPlacedAgain_89 : decode cX5_isPlacedAgain 89 = .ok (.iload_n 3, 1) := by decide +kernel
theorem dX5_isPlacedAgain_90 : decode cX5_isPlacedAgain 90 = .ok (.iconst 2, 1) := by decide +kernel
theorem dX5_isPlacedAgain_91 : decode cX5_isPlacedAgain 91 = .ok (.invokevirtual 126, 3) := by decide +kernel
theorem dX5_isPlacedAgain_94 : decode cX5_isPlacedAgain 94 = .ok (.invokevirtual 265, 3) := by decide +kernel
theorem dX5_isPlacedAgain_97 : decode cX5_isPlacedAgain 97 = .ok (.iconst 0, 1) := by decide +kernel
theorem dX5_isPlacedAgain_98 : decode cX5_isPlacedAgain 98 = .ok (.istore 8, 2) := by decide +kernel
theorem dX5_isPlacedAgain_100 : decode cX5_isPlacedAgain 100 = .ok (.iload 8, 2) := by decide +kernel
theorem dX5_isPlacedAgain_102 : decode cX5_isPlacedAgain 102 = .ok (.iconst 2, 1) := by decide +kernel
theorem dX5_isPlacedAgain_103 : decode cX5_isPlacedAgain 103 = .ok (.iload 7, 2) := by decide +kernel
theorem dX5_isPlacedAgain_105 : decode cX5_isPlacedAgain 105 = .ok (.imul, 1) := by decide +kernel
theorem dX5_isPlacedAgain_106 : decode cX5_isPlacedAgain 106 = .ok (.if_icmp .gt 141, 3) := by decide +kernel
theorem dX5_isPlacedAgain_109 : decode cX5_isPlacedAgain 109 = .ok (.iload 8, 2) := by decide +kernel
theorem dX5_isPlacedAgain_111 : decode cX5_isPlacedAgain 111 = .ok (.iconst 1, 1) := by decide +kernel
theorem dX5_isPlacedAgain_112 : decode cX5_isPlacedAgain 112 = .ok (.iadd, 1) := by decide +kernel
theorem dX5_isPlacedAgain_113 : decode cX5_isPlacedAgain 113 = .ok (.iconst 2, 1) := by decide +kernel
theorem dX5_isPlacedAgain_114 : decode cX5_isPlacedAgain 114 = .ok (.idiv, 1) := by decide +kernel
theorem dX5_isPlacedAgain_115 : decode cX5_isPlacedAgain 115 = .ok (.istore 9, 2) := by decide +kernel
theorem dX5_isPlacedAgain_117 : decode cX5_isPlacedAgain 117 = .ok (.iload 8, 2) := by decide +kernel
theorem dX5_isPlacedAgain_119 : decode cX5_isPlacedAgain 119 = .ok (.iconst 2, 1) := by decide +kernel
theorem dX5_isPlacedAgain_120 : decode cX5_isPlacedAgain 120 = .ok (.irem, 1) := by decide +kernel
theorem dX5_isPlacedAgain_121 : decode cX5_isPlacedAgain 121 = .ok (.ifCond .ne 11, 3) := by decide +kernel
theorem dX5_isPlacedAgain_124 : decode cX5_isPlacedAgain 124 = .ok (.iload 4, 2) := by decide +kernel
theorem dX5_isPlacedAgain_126 : decode cX5_isPlacedAgain 126 = .ok (.iload 9, 2) := by decide +kernel
theorem dX5_isPlacedAgain_128 : decode cX5_isPlacedAgain 128 = .ok (.iadd, 1) := by decide +kernel
theorem dX5_isPlacedAgain_129 : decode cX5_isPlacedAgain 129 = .ok (.goto 8, 3) := by decide +kernel
theorem dX5_isPlacedAgain_132 : decode cX5_isPlacedAgain 132 = .ok (.iload 4, 2) := by decide +kernel
theorem dX5_isPlacedAgain_134 : decode cX5_isPlacedAgain 134 = .ok (.iload 9, 2) := by decide +kernel
theorem dX5_isPlacedAgain_136 : decode cX5_isPlacedAgain 136 = .ok (.isub, 1) := by decide +kernel
theorem dX5_isPlacedAgain_137 : decode cX5_isPlacedAgain 137 = .ok (.istore 10, 2) := by decide +kernel
theorem dX5_isPlacedAgain_139 : decode cX5_isPlacedAgain 139 = .ok (.iconst 0, 1) := by decide +kernel
theorem dX5_isPlacedAgain_140 : decode cX5_isPlacedAgain 140 = .ok (.istore 11, 2) := by decide +kernel
theorem dX5_isPlacedAgain_142 : decode cX5_isPlacedAgain 142 = .ok (.iload 11, 2) := by decide +kernel
theorem dX5_isPlacedAgain_144 : decode cX5_isPlacedAgain 144 = .ok (.aload_n 0, 1) := by decide +kernel
theorem dX5_isPlacedAgain_145 : decode cX5_isPlacedAgain 145 = .ok (.getfield 10, 3) := by decide +kernel
theorem dX5_isPlacedAgain_148 : decode cX5_isPlacedAgain 148 = .ok (.getfield 75, 3) := by decide +kernel
theorem dX5_isPlacedAgain_151 : decode cX5_isPlacedAgain 151 = .ok (.invokevirtual 79, 3) := by decide +kernel
theorem dX5_isPlacedAgain_154 : decode cX5_isPlacedAgain 154 = .ok (.if_icmp .ge 87, 3) := by decide +kernel
theorem dX5_isPlacedAgain_157 : decode cX5_isPlacedAgain 157 = .ok (.iload 10, 2) := by decide +kernel
theorem dX5_isPlacedAgain_159 : decode cX5_isPlacedAgain 159 = .ok (.invokestatic 215, 3) := by decide +kernel
theorem dX5_isPlacedAgain_162 : decode cX5_isPlacedAgain 162 = .ok (.ifCond .eq 79, 3) := by decide +kernel
theorem dX5_isPlacedAgain_165 : decode cX5_isPlacedAgain 165 = .ok (.iload 11, 2) := by decide +kernel
theorem dX5_isPlacedAgain_167 : decode cX5_isPlacedAgain 167 = .ok (.iload_n 2, 1) := by decide +kernel
theorem dX5_isPlacedAgain_168 : decode cX5_isPlacedAgain 168 = .ok (.if_icmp .eq 25, 3) := by decide +kernel
theorem dX5_isPlacedAgain_171 : decode cX5_isPlacedAgain 171 = .ok (.aload_n 0, 1) := by decide +kernel
theorem dX5_isPlacedAgain_172 : decode cX5_isPlacedAgain 172 = .ok (.getfield 10, 3) := by decide +kernel
theorem dX5_isPlacedAgain_175 : decode cX5_isPlacedAgain 175 = .ok (.getfield 75, 3) := by decide +kernel
theorem dX5_isPlacedAgain_178 : decode cX5_isPlacedAgain 178 = .ok (.iload 11, 2) := by decide +kernel
theorem dX5_isPlacedAgain_180 : decode cX5_isPlacedAgain 180 = .ok (.iconst 0, 1) := by decide +kernel
theorem dX5_isPlacedAgain_181 : decode cX5_isPlacedAgain 181 = .ok (.invokevirtual 126, 3) := by decide +kernel
theorem dX5_isPlacedAgain_184 : decode cX5_isPlacedAgain 184 = .ok (.iload 5, 2) := by decide +kernel
theorem dX5_isPlacedAgain_186 : decode cX5_isPlacedAgain 186 = .ok (.if_icmp .lt 7, 3) := by decide +kernel
theorem dX5_isPlacedAgain_189 : decode cX5_isPlacedAgain 189 = .ok (.iconst 1, 1) := by decide +kernel
theorem dX5_isPlacedAgain_190 : decode cX5_isPlacedAgain 190 = .ok (.goto 4, 3) := by decide +kernel
theorem dX5_isPlacedAgain_193 : decode cX5_isPlacedAgain 193 = .ok (.iconst 0, 1) := by decide +kernel
theorem dX5_isPlacedAgain_194 : decode cX5_isPlacedAgain 194 = .ok (.istore 12, 2) := by decide +kernel
theorem dX5_isPlacedAgain_196 : decode cX5_isPlacedAgain 196 = .ok (.iload 12, 2) := by decide +kernel
theorem dX5_isPlacedAgain_198 : decode cX5_isPlacedAgain 198 = .ok (.ifCond .eq 37, 3) := by decide +kernel
theorem dX5_isPlacedAgain_201 : decode cX5_isPlacedAgain 201 = .ok (.aload_n 0, 1) := by decide +kernel
theorem dX5_isPlacedAgain_202 : decode cX5_isPlacedAgain 202 = .ok (.getfield 29, 3) := by decide +kernel
theorem dX5_isPlacedAgain_205 : decode cX5_isPlacedAgain 205 = .ok (.aload_n 0, 1) := by decide +kernel
theorem dX5_isPlacedAgain_206 : decode cX5_isPlacedAgain 206 = .ok (.getfield 10, 3) := by decide +kernel
theorem dX5_isPlacedAgain_209 : decode cX5_isPlacedAgain 209 = .ok (.iload 11, 2) := by decide +kernel
theorem dX5_isPlacedAgain_211 : decode cX5_isPlacedAgain 211 = .ok (.iload 10, 2) := by decide +kernel
theorem dX5_isPlacedAgain_213 : decode cX5_isPlacedAgain 213 = .ok (.iload 10, 2) := by decide +kernel
theorem dX5_isPlacedAgain_215 : decode cX5_isPlacedAgain 215 = .ok (.iload 6, 2) := by decide +kernel
theorem dX5_isPlacedAgain_217 : decode cX5_isPlacedAgain 217 = .ok (.iadd, 1) := by decide +kernel
theorem dX5_isPlacedAgain_218 : decode cX5_isPlacedAgain 218 = .ok (.invokevirtual 272, 3) := by decide +kernel
theorem dX5_isPlacedAgain_221 : decode cX5_isPlacedAgain 221 = .ok (.ifCond .ne 14, 3) := by decide +kernel
theorem dX5_isPlacedAgain_224 : decode cX5_isPlacedAgain 224 = .ok (.aload_n 0, 1) := by decide +kernel
theorem dX5_isPlacedAgain_225 : decode cX5_isPlacedAgain 225 = .ok (.iload_n 1, 1) := by decide +kernel
theorem dX5_isPlacedAgain_226 : decode cX5_isPlacedAgain 226 = .ok (.iload 11, 2) := by decide +kernel
theorem dX5_isPlacedAgain_228 : decode cX5_isPlacedAgain 228 = .ok (.iload 10, 2) := by decide +kernel
theorem dX5_isPlacedAgain_230 : decode cX5_isPlacedAgain 230 = .ok (.invokevirtual 443, 3) := by decide +kernel
theorem dX5_isPlacedAgain_233 : decode cX5_isPlacedAgain 233 = .ok (.iconst 1, 1) := by decide +kernel
theorem dX5_isPlacedAgain_234 : decode cX5_isPlacedAgain 234 = .ok (.ireturn, 1) := by decide +kernel
theorem dX5_isPlacedAgain_235 : decode cX5_isPlacedAgain 235 = .ok (.iinc 11 1, 3) := by decide +kernel
theorem dX5_isPlacedAgain_238 : decode cX5_isPlacedAgain 238 = .ok (.goto (-96), 3) := by decide +kernel
theorem dX5_isPlacedAgain_241 : decode cX5_isPlacedAgain 241 = .ok (.iinc 8 1, 3) := by decide +kernel
theorem dX5_isPlacedAgain_244 : decode cX5_isPlacedAgain 244 = .ok (.goto (-144), 3) := by decide +kernel
theorem dX5_isPlacedAgain_247 : decode cX5_isPlacedAgain 247 = .ok (.iconst 0, 1) := by decide +kernel
theorem dX5_isPlacedAgain_248 : decode cX5_isPlacedAgain 248 = .ok (.ireturn, 1) := by decide +kernel
theorem dX5_putBack_0 : decode cX5_putBack 0 = .ok (.aload_n 0, 1) := by decide +kernel
theorem dX5_putBack_1 : decode cX5_putBack 1 = .ok (.getfield 10, 3) := by decide +kernel
theorem dX5_putBack_4 : decode cX5_putBack 4 = .ok (.getfield 293, 3) := by decide +kernel
theorem dX5_putBack_7 : decode cX5_putBack 7 = .ok (.iload_n 1, 1) := by decide +kernel
theorem dX5_putBack_8 : decode cX5_putBack 8 = .ok (.iconst 0, 1) := by decide +kernel
theorem dX5_putBack_9 : decode cX5_putBack 9 = .ok (.invokevirtual 126, 3) := by decide +kernel
theorem dX5_putBack_12 : decode cX5_putBack 12 = .ok (.istore 4, 2) := by decide +kernel
theorem dX5_putBack_14 : decode cX5_putBack 14 = .ok (.aload_n 0, 1) := by decide +kernel
theorem dX5_putBack_15 : decode cX5_putBack 15 = .ok (.getfield 10, 3) := by decide +kernel
theorem dX5_putBack_18 : decode cX5_putBack 18 = .ok (.iload 4, 2) := by decide +kernel
theorem dX5_putBack_20 : decode cX5_putBack 20 = .ok (.iload_n 2, 1) := by decide +kernel
theorem dX5_putBack_21 : decode cX5_putBack 21 = .ok (.iload_n 3, 1) := by decide +kernel
theorem dX5_putBack_22 : decode cX5_putBack 22 = .ok (.invokevirtual 230, 3) := by decide +kernel
theorem dX5_putBack_25 : decode cX5_putBack 25 = .ok (.aload_n 0, 1) := by decide +kernel
theorem dX5_putBack_26 : decode cX5_putBack 26 = .ok (.getfield 10, 3) := by decide +kernel
theorem dX5_putBack_29 : decode cX5_putBack 29 = .ok (.getfield 210, 3) := by decide +kernel
theorem dX5_putBack_32 : decode cX5_putBack 32 = .ok (.iload 4, 2) := by decide +kernel
theorem dX5_putBack_34 : decode cX5_putBack 34 = .ok (.bipush 8, 2) := by decide +kernel
theorem dX5_putBack_36 : decode cX5_putBack 36 = .ok (.iconst 0, 1) := by decide +kernel
theorem dX5_putBack_37 : decode cX5_putBack 37 = .ok (.invokevirtual 97, 3) := by decide +kernel
theorem dX5_putBack_40 : decode cX5_putBack 40 = .ok (.aload_n 0, 1) := by decide +kernel
theorem dX5_putBack_41 : decode cX5_putBack 41 = .ok (.getfield 10, 3) := by decide +kernel
theorem dX5_putBack_44 : decode cX5_putBack 44 = .ok (.getfield 293, 3) := by decide +kernel
theorem dX5_putBack_47 : decode cX5_putBack 47 = .ok (.iload_n 1, 1) := by decide +kernel
theorem dX5_putBack_48 : decode cX5_putBack 48 = .ok (.iconst 2, 1) := by decide +kernel
theorem dX5_putBack_49 : decode cX5_putBack 49 = .ok (.iload_n 2, 1) := by decide +kernel
theorem dX5_putBack_50 : decode cX5_putBack 50 = .ok (.invokevirtual 97, 3) := by decide +kernel
theorem dX5_putBack_53 : decode cX5_putBack 53 = .ok (.aload_n 0, 1) := by decide +kernel
theorem dX5_putBack_54 : decode cX5_putBack 54 = .ok (.getfield 10, 3) := by decide +kernel
theorem dX5_putBack_57 : decode cX5_putBack 57 = .ok (.getfield 293, 3) := by decide +kernel
theorem dX5_putBack_60 : decode cX5_putBack 60 = .ok (.iload_n 1, 1) := by decide +kernel
theorem dX5_putBack_61 : decode cX5_putBack 61 = .ok (.iconst 3, 1) := by decide +kernel
theorem dX5_putBack_62 : decode cX5_putBack 62 = .ok (.iload_n 3, 1) := by decide +kernel
theorem dX5_putBack_63 : decode cX5_putBack 63 = .ok (.invokevirtual 97, 3) := by decide +kernel
theorem dX5_putBack_66 : decode cX5_putBack 66 = .ok (.return_, 1) := by decide +kernel
theorem dX5_appendShow_0 : decode cX5_appendShow 0 = .ok (.aload_n 0, 1) := by decide +kernel
theorem dX5_appendShow_1 : decode cX5_appendShow 1 = .ok (.getfield 47, 3) := by decide +kernel
theorem dX5_appendShow_4 : decode cX5_appendShow 4 = .ok (.aload_n 0, 1) := by decide +kernel
theorem dX5_appendShow_5 : decode cX5_appendShow 5 = .ok (.getfield 10, 3) := by decide +kernel
theorem dX5_appendShow_8 : decode cX5_appendShow 8 = .ok (.getfield 210, 3) := by decide +kernel
theorem dX5_appendShow_11 : decode cX5_appendShow 11 = .ok (.iload_n 1, 1) := by decide +kernel
theorem dX5_appendShow_12 : decode cX5_appendShow 12 = .ok (.iconst 3, 1) := by decide +kernel
theorem dX5_appendShow_13 : decode cX5_appendShow 13 = .ok (.invokevirtual 126, 3) := by decide +kernel
theorem dX5_appendShow_16 : decode cX5_appendShow 16 = .ok (.invokevirtual 446, 3) := by decide +kernel
theorem dX5_appendShow_19 : decode cX5_appendShow 19 = .ok (.pop, 1) := by decide +kernel
theorem dX5_appendShow_20 : decode cX5_appendShow 20 = .ok (.aload_n 0, 1) := by decide +kernel
theorem dX5_appendShow_21 : decode cX5_appendShow 21 = .ok (.getfield 47, 3) := by decide +kernel
theorem dX5_appendShow_24 : decode cX5_appendShow 24 = .ok (.bipush 45, 2) := by decide +kernel
theorem dX5_appendShow_26 : decode cX5_appendShow 26 = .ok (.invokevirtual 377, 3) := by decide +kernel
theorem dX5_appendShow_29 : decode cX5_appendShow 29 = .ok (.pop, 1) := by decide +kernel
theorem dX5_appendShow_30 : decode cX5_appendShow 30 = .ok (.aload_n 0, 1) := by decide +kernel
theorem dX5_appendShow_31 : decode cX5_appendShow 31 = .ok (.getfield 47, 3) := by decide +kernel
theorem dX5_appendShow_34 : decode cX5_appendShow 34 = .ok (.aload_n 0, 1) := by decide +kernel
theorem dX5_appendShow_35 : decode cX5_appendShow 35 = .ok (.getfield 10, 3) := by decide +kernel
theorem dX5_appendShow_38 : decode cX5_appendShow 38 = .ok (.getfield 210, 3) := by decide +kernel
theorem dX5_appendShow_41 : decode cX5_appendShow 41 = .ok (.iload_n 1, 1) := by decide +kernel
theorem dX5_appendShow_42 : decode cX5_appendShow 42 = .ok (.iconst 4, 1) := by decide +kernel
theorem dX5_appendShow_43 : decode cX5_appendShow 43 = .ok (.invokevirtual 126, 3) := by decide +kernel
theorem dX5_appendShow_46 : decode cX5_appendShow 46 = .ok (.invokevirtual 446, 3) := by decide +kernel
theorem dX5_appendShow_49 : decode cX5_appendShow 49 = .ok (.pop, 1) := by decide +kernel
theorem dX5_appendShow_50 : decode cX5_appendShow 50 = .ok (.aload_n 0, 1) := by decide +kernel
theorem dX5_appendShow_51 : decode cX5_appendShow 51 = .ok (.getfield 47, 3) := by decide +kernel
theorem dX5_appendShow_54 : decode cX5_appendShow 54 = .ok (.ldc_w 449, 3) := by decide +kernel
theorem dX5_appendShow_57 : decode cX5_appendShow 57 = .ok (.invokevirtual 353, 3) := by decide +kernel
theorem dX5_appendShow_60 : decode cX5_appendShow 60 = .ok (.pop, 1) := by decide +kernel
theorem dX5_appendShow_61 : decode cX5_appendShow 61 = .ok (.aload_n 0, 1) := by decide +kernel
theorem dX5_appendShow_62 : decode cX5_appendShow 62 = .ok (.getfield 47, 3) := by decide +kernel
theorem dX5_appendShow_65 : decode cX5_appendShow 65 = .ok (.aload_n 0, 1) := by decide +kernel
theorem dX5_appendShow_66 : decode cX5_appendShow 66 = .ok (.getfield 10, 3) := by decide +kernel
theorem dX5_appendShow_69 : decode cX5_appendShow 69 = .ok (.getfield 210, 3) := by decide +kernel
theorem dX5_appendShow_72 : decode cX5_appendShow 72 = .ok (.iload_n 1, 1) := by decide +kernel
theorem dX5_appendShow_73 : decode cX5_appendShow 73 = .ok (.iconst 1, 1) := by decide +kernel
theorem dX5_appendShow_74 : decode cX5_appendShow 74 = .ok (.invokevirtual 126, 3) := by decide +kernel
theorem dX5_appendShow_77 : decode cX5_appendShow 77 = .ok (.invokevirtual 446, 3) := by decide +kernel
theorem dX5_appendShow_80 : decode cX5_appendShow 80 = .ok (.pop, 1) := by decide +kernel
theorem dX5_appendShow_81 : decode cX5_appendShow 81 = .ok (.aload_n 0, 1) := by decide +kernel
theorem dX5_appendShow_82 : decode cX5_appendShow 82 = .ok (.getfield 47, 3) := by decide +kernel
theorem dX5_appendShow_85 : decode cX5_appendShow 85 = .ok (.bipush 32, 2) := by decide +kernel
theorem dX5_appendShow_87 : decode cX5_appendShow 87 = .ok (.invokevirtual 377, 3) := by decide +kernel
theorem dX5_appendShow_90 : decode cX5_appendShow 90 = .ok (.pop, 1) := by decide +kernel
theorem dX5_appendShow_91 : decode cX5_appendShow 91 = .ok (.aload_n 0, 1) := by decide +kernel
theorem dX5_appendShow_92 : decode cX5_appendShow 92 = .ok (.getfield 47, 3) := by decide +kernel
theorem dX5_appendShow_95 : decode cX5_appendShow 95 = .ok (.aload_n 0, 1) := by decide +kernel
theorem dX5_appendShow_96 : decode cX5_appendShow 96 = .ok (.getfield 10, 3) := by decide +kernel
theorem dX5_appendShow_99 : decode cX5_appendShow 99 = .ok (.getfield 210, 3) := by decide +kernel
theorem dX5_appendShow_102 : decode cX5_appendShow 102 = .ok (.iload_n 1, 1) := by decide +kernel
theorem dX5_appendShow_103 : decode cX5_appendShow 103 = .ok (.iconst 5, 1) := by decide +kernel
theorem dX5_appendShow_104 : decode cX5_appendShow 104 = .ok (.invokevirtual 126, 3) := by decide +kernel
theorem dX5_appendShow_107 : decode cX5_appendShow 107 = .ok (.invokevirtual 446, 3) := by decide +kernel
theorem dX5_appendShow_110 : decode cX5_appendShow 110 = .ok (.pop, 1) := by decide +kernel
theorem dX5_appendShow_111 : decode cX5_appendShow 111 = .ok (.aload_n 0, 1) := by decide +kernel
theorem dX5_appendShow_112 : decode cX5_appendShow 112 = .ok (.getfield 47, 3) := by decide +kernel
theorem dX5_appendShow_115 : decode cX5_appendShow 115 = .ok (.bipush 47, 2) := by decide +kernel
theorem dX5_appendShow_117 : decode cX5_appendShow 117 = .ok (.invokevirtual 377, 3) := by decide +kernel
theorem dX5_appendShow_120 : decode cX5_appendShow 120 = .ok (.pop, 1) := by decide +kernel
theorem dX5_appendShow_121 : decode cX5_appendShow 121 = .ok (.aload_n 0, 1) := by decide +kernel
theorem dX5_appendShow_122 : decode cX5_appendShow 122 = .ok (.getfield 47, 3) := by decide +kernel
theorem dX5_appendShow_125 : decode cX5_appendShow 125 = .ok (.aload_n 0, 1) := by decide +kernel
theorem dX5_appendShow_126 : decode cX5_appendShow 126 = .ok (.getfield 10, 3) := by decide +kernel
theorem dX5_appendShow_129 : decode cX5_appendShow 129 = .ok (.iload_n 1, 1) := by decide +kernel
theorem dX5_appendShow_130 : decode cX5_appendShow 130 = .ok (.invokevirtual 431, 3) := by decide +kernel
theorem dX5_appendShow_133 : decode cX5_appendShow 133 = .ok (.invokevirtual 446, 3) := by decide +kernel
theorem dX5_appendShow_136 : decode cX5_appendShow 136 = .ok (.pop, 1) := by decide +kernel
theorem dX5_appendShow_137 : decode cX5_appendShow 137 = .ok (.return_, 1) := by decide +kernel
theorem dX5_isCarriedOut_0 : decode cX5_isCarriedOut 0 = .ok (.aload_n 0, 1) := by decide +kernel
theorem dX5_isCarriedOut_1 : decode cX5_isCarriedOut 1 = .ok (.getfield 36, 3) := by decide +kernel
theorem dX5_isCarriedOut_4 : decode cX5_isCarriedOut 4 = .ok (.getfield 392, 3) := by decide +kernel
theorem dX5_isCarriedOut_7 : decode cX5_isCarriedOut 7 = .ok (.iload_n 1, 1) := by decide +kernel
theorem dX5_isCarriedOut_8 : decode cX5_isCarriedOut 8 = .ok (.iconst 1, 1) := by decide +kernel
theorem dX5_isCarriedOut_9 : decode cX5_isCarriedOut 9 = .ok (.invokevirtual 126, 3) := by decide +kernel
theorem dX5_isCarriedOut_12 : decode cX5_isCarriedOut 12 = .ok (.istore_n 2, 1) := by decide +kernel
theorem dX5_isCarriedOut_13 : decode cX5_isCarriedOut 13 = .ok (.aload_n 0, 1) := by decide +kernel
theorem dX5_isCarriedOut_14 : decode cX5_isCarriedOut 14 = .ok (.getfield 36, 3) := by decide +kernel
theorem dX5_isCarriedOut_17 : decode cX5_isCarriedOut 17 = .ok (.getfield 392, 3) := by decide +kernel
theorem dX5_isCarriedOut_20 : decode cX5_isCarriedOut 20 = .ok (.iload_n 1, 1) := by decide +kernel
theorem dX5_isCarriedOut_21 : decode cX5_isCarriedOut 21 = .ok (.iconst 2, 1) := by decide +kernel
theorem dX5_isCarriedOut_22 : decode cX5_isCarriedOut 22 = .ok (.invokevirtual 126, 3) := by decide +kernel
theorem dX5_isCarriedOut_25 : decode cX5_isCarriedOut 25 = .ok (.istore_n 3, 1) := by decide +kernel
theorem dX5_isCarriedOut_26 : decode cX5_isCarriedOut 26 = .ok (.aload_n 0, 1) := by decide +kernel
theorem dX5_isCarriedOut_27 : decode cX5_isCarriedOut 27 = .ok (.getfield 36, 3) := by decide +kernel
theorem dX5_isCarriedOut_30 : decode cX5_isCarriedOut 30 = .ok (.getfield 392, 3) := by decide +kernel
theorem dX5_isCarriedOut_33 : decode cX5_isCarriedOut 33 = .ok (.iload_n 1, 1) := by decide +kernel
theorem dX5_isCarriedOut_34 : decode cX5_isCarriedOut 34 = .ok (.iconst 3, 1) := by decide +kernel
theorem dX5_isCarriedOut_35 : decode cX5_isCarriedOut 35 = .ok (.invokevirtual 126, 3) := by decide +kernel
theorem dX5_isCarriedOut_38 : decode cX5_isCarriedOut 38 = .ok (.istore 4, 2) := by decide +kernel
theorem dX5_isCarriedOut_40 : decode cX5_isCarriedOut 40 = .ok (.aload_n 0, 1) := by decide +kernel
theorem dX5_isCarriedOut_41 : decode cX5_isCarriedOut 41 = .ok (.getfield 36, 3) := by decide +kernel
theorem dX5_isCarriedOut_44 : decode cX5_isCarriedOut 44 = .ok (.getfield 392, 3) := by decide +kernel
theorem dX5_isCarriedOut_47 : decode cX5_isCarriedOut 47 = .ok (.iload_n 1, 1) := by decide +kernel
theorem dX5_isCarriedOut_48 : decode cX5_isCarriedOut 48 = .ok (.iconst 4, 1) := by decide +kernel
theorem dX5_isCarriedOut_49 : decode cX5_isCarriedOut 49 = .ok (.invokevirtual 126, 3) := by decide +kernel
theorem dX5_isCarriedOut_52 : decode cX5_isCarriedOut 52 = .ok (.istore 5, 2) := by decide +kernel
theorem dX5_isCarriedOut_54 : decode cX5_isCarriedOut 54 = .ok (.aload_n 0, 1) := by decide +kernel
theorem dX5_isCarriedOut_55 : decode cX5_isCarriedOut 55 = .ok (.getfield 36, 3) := by decide +kernel
theorem dX5_isCarriedOut_58 : decode cX5_isCarriedOut 58 = .ok (.getfield 392, 3) := by decide +kernel
theorem dX5_isCarriedOut_61 : decode cX5_isCarriedOut 61 = .ok (.iload_n 1, 1) := by decide +kernel
theorem dX5_isCarriedOut_62 : decode cX5_isCarriedOut 62 = .ok (.iconst 0, 1) := by decide +kernel
theorem dX5_isCarriedOut_63 : decode cX5_isCarriedOut 63 = .ok (.invokevirtual 126, 3) := by decide +kernel
theorem dX5_isCarriedOut_66 : decode cX5_isCarriedOut 66 = .ok (.tableswitch 141 0 4 #[34, 68, 94, 118, 141], 34) := by decide +kernel
theorem dX5_isCarriedOut_100 : decode cX5_isCarriedOut 100 = .ok (.aload_n 0, 1) := by decide +kernel
theorem dX5_isCarriedOut_101 : decode cX5_isCarriedOut 101 = .ok (.iload_n 2, 1) := by decide +kernel
theorem dX5_isCarriedOut_102 : decode cX5_isCarriedOut 102 = .ok (.iload_n 3, 1) := by decide +kernel
theorem dX5_isCarriedOut_103 : decode cX5_isCarriedOut 103 = .ok (.iload 4, 2) := by decide +kernel
theorem dX5_isCarriedOut_105 : decode cX5_isCarriedOut 105 = .ok (.iload 5, 2) := by decide +kernel
theorem dX5_isCarriedOut_107 : decode cX5_isCarriedOut 107 = .ok (.invokevirtual 194, 3) := by decide +kernel
theorem dX5_isCarriedOut_110 : decode cX5_isCarriedOut 110 = .ok (.istore 6, 2) := by decide +kernel
theorem dX5_isCarriedOut_112 : decode cX5_isCarriedOut 112 = .ok (.iload 6, 2) := by decide +kernel
theorem dX5_isCarriedOut_114 : decode cX5_isCarriedOut 114 = .ok (.ifCond .ne 118, 3) := by decide +kernel
theorem dX5_isCarriedOut_117 : decode cX5_isCarriedOut 117 = .ok (.aload_n 0, 1) := by decide +kernel
theorem dX5_isCarriedOut_118 : decode cX5_isCarriedOut 118 = .ok (.getfield 10, 3) := by decide +kernel
theorem dX5_isCarriedOut_121 : decode cX5_isCarriedOut 121 = .ok (.iload_n 2, 1) := by decide +kernel
theorem dX5_isCarriedOut_122 : decode cX5_isCarriedOut 122 = .ok (.iload_n 3, 1) := by decide +kernel
theorem dX5_isCarriedOut_123 : decode cX5_isCarriedOut 123 = .ok (.iload 4, 2) := by decide +kernel
theorem dX5_isCarriedOut_125 : decode cX5_isCarriedOut 125 = .ok (.iload 5, 2) := by decide +kernel
theorem dX5_isCarriedOut_127 : decode cX5_isCarriedOut 127 = .ok (.invokevirtual 207, 3) := by decide +kernel
theorem dX5_isCarriedOut_130 : decode cX5_isCarriedOut 130 = .ok (.pop, 1) := by decide +kernel
theorem dX5_isCarriedOut_131 : decode cX5_isCarriedOut 131 = .ok (.goto 101, 3) := by decide +kernel
theorem dX5_isCarriedOut_134 : decode cX5_isCarriedOut 134 = .ok (.aload_n 0, 1) := by decide +kernel
theorem dX5_isCarriedOut_135 : decode cX5_isCarriedOut 135 = .ok (.iload_n 2, 1) := by decide +kernel
theorem dX5_isCarriedOut_136 : decode cX5_isCarriedOut 136 = .ok (.iload_n 3, 1) := by decide +kernel
theorem dX5_isCarriedOut_137 : decode cX5_isCarriedOut 137 = .ok (.invokevirtual 246, 3) := by decide +kernel
theorem dX5_isCarriedOut_140 : decode cX5_isCarriedOut 140 = .ok (.istore 6, 2) := by decide +kernel
theorem dX5_isCarriedOut_142 : decode cX5_isCarriedOut 142 = .ok (.iload 6, 2) := by decide +kernel
theorem dX5_isCarriedOut_144 : decode cX5_isCarriedOut 144 = .ok (.ifCond .ne 88, 3) := by decide +kernel
theorem dX5_isCarriedOut_147 : decode cX5_isCarriedOut 147 = .ok (.aload_n 0, 1) := by decide +kernel
theorem dX5_isCarriedOut_148 : decode cX5_isCarriedOut 148 = .ok (.getfield 10, 3) := by decide +kernel
theorem dX5_isCarriedOut_151 : decode cX5_isCarriedOut 151 = .ok (.iload_n 2, 1) := by decide +kernel
theorem dX5_isCarriedOut_152 : decode cX5_isCarriedOut 152 = .ok (.iload_n 3, 1) := by decide +kernel
theorem dX5_isCarriedOut_153 : decode cX5_isCarriedOut 153 = .ok (.invokevirtual 253, 3) := by decide +kernel
theorem dX5_isCarriedOut_156 : decode cX5_isCarriedOut 156 = .ok (.pop, 1) := by decide +kernel
theorem dX5_isCarriedOut_157 : decode cX5_isCarriedOut 157 = .ok (.goto 75, 3) := by decide +kernel
theorem dX5_isCarriedOut_160 : decode cX5_isCarriedOut 160 = .ok (.aload_n 0, 1) := by decide +kernel
theorem dX5_isCarriedOut_161 : decode cX5_isCarriedOut 161 = .ok (.iload_n 2, 1) := by decide +kernel
theorem dX5_isCarriedOut_162 : decode cX5_isCarriedOut 162 = .ok (.invokevirtual 238, 3) := by decide +kernel
theorem dX5_isCarriedOut_165 : decode cX5_isCarriedOut 165 = .ok (.istore 6, 2) := by decide +kernel
theorem dX5_isCarriedOut_167 : decode cX5_isCarriedOut 167 = .ok (.iload 6, 2) := by decide +kernel
theorem dX5_isCarriedOut_169 : decode cX5_isCarriedOut 169 = .ok (.ifCond .ne 63, 3) := by decide +kernel
theorem dX5_isCarriedOut_172 : decode cX5_isCarriedOut 172 = .ok (.aload_n 0, 1) := by decide +kernel
theorem dX5_isCarriedOut_173 : decode cX5_isCarriedOut 173 = .ok (.getfield 10, 3) := by decide +kernel
theorem dX5_isCarriedOut_176 : decode cX5_isCarriedOut 176 = .ok (.iload_n 2, 1) := by decide +kernel
theorem dX5_isCarriedOut_177 : decode cX5_isCarriedOut 177 = .ok (.invokevirtual 243, 3) := by decide +kernel
theorem dX5_isCarriedOut_180 : decode cX5_isCarriedOut 180 = .ok (.pop, 1) := by decide +kernel
theorem dX5_isCarriedOut_181 : decode cX5_isCarriedOut 181 = .ok (.goto 51, 3) := by decide +kernel
theorem dX5_isCarriedOut_184 : decode cX5_isCarriedOut 184 = .ok (.aload_n 0, 1) := by decide +kernel
theorem dX5_isCarriedOut_185 : decode cX5_isCarriedOut 185 = .ok (.iload_n 2, 1) := by decide +kernel
theorem dX5_isCarriedOut_186 : decode cX5_isCarriedOut 186 = .ok (.iload_n 3, 1) := by decide +kernel
theorem dX5_isCarriedOut_187 : decode cX5_isCarriedOut 187 = .ok (.invokevirtual 281, 3) := by decide +kernel
theorem dX5_isCarriedOut_190 : decode cX5_isCarriedOut 190 = .ok (.istore 6, 2) := by decide +kernel
theorem dX5_isCarriedOut_192 : decode cX5_isCarriedOut 192 = .ok (.iload 6, 2) := by decide +kernel
theorem dX5_isCarriedOut_194 : decode cX5_isCarriedOut 194 = .ok (.ifCond .ne 38, 3) := by decide +kernel
theorem dX5_isCarriedOut_197 : decode cX5_isCarriedOut 197 = .ok (.aload_n 0, 1) := by decide +kernel
theorem dX5_isCarriedOut_198 : decode cX5_isCarriedOut 198 = .ok (.iload_n 2, 1) := by decide +kernel
theorem dX5_isCarriedOut_199 : decode cX5_isCarriedOut 199 = .ok (.iload_n 3, 1) := by decide +kernel
theorem dX5_isCarriedOut_200 : decode cX5_isCarriedOut 200 = .ok (.invokevirtual 288, 3) := by decide +kernel
theorem dX5_isCarriedOut_203 : decode cX5_isCarriedOut 203 = .ok (.pop, 1) := by decide +kernel
theorem dX5_isCarriedOut_204 : decode cX5_isCarriedOut 204 = .ok (.goto 28, 3) := by decide +kernel
theorem dX5_isCarriedOut_207 : decode cX5_isCarriedOut 207 = .ok (.aload_n 0, 1) := by decide +kernel
theorem dX5_isCarriedOut_208 : decode cX5_isCarriedOut 208 = .ok (.iload_n 2, 1) := by decide +kernel
theorem dX5_isCarriedOut_209 : decode cX5_isCarriedOut 209 = .ok (.invokevirtual 325, 3) := by decide +kernel
theorem dX5_isCarriedOut_212 : decode cX5_isCarriedOut 212 = .ok (.istore 6, 2) := by decide +kernel
theorem dX5_isCarriedOut_214 : decode cX5_isCarriedOut 214 = .ok (.iload 6, 2) := by decide +kernel
theorem dX5_isCarriedOut_216 : decode cX5_isCarriedOut 216 = .ok (.ifCond .ne 16, 3) := by decide +kernel
theorem dX5_isCarriedOut_219 : decode cX5_isCarriedOut 219 = .ok (.aload_n 0, 1) := by decide +kernel
theorem dX5_isCarriedOut_220 : decode cX5_isCarriedOut 220 = .ok (.getfield 10, 3) := by decide +kernel
theorem dX5_isCarriedOut_223 : decode cX5_isCarriedOut 223 = .ok (.dup, 1) := by decide +kernel
theorem dX5_isCarriedOut_224 : decode cX5_isCarriedOut 224 = .ok (.getfield 330, 3) := by decide +kernel
theorem dX5_isCarriedOut_227 : decode cX5_isCarriedOut 227 = .ok (.iload_n 2, 1) := by decide +kernel
theorem dX5_isCarriedOut_228 : decode cX5_isCarriedOut 228 = .ok (.iadd, 1) := by decide +kernel
theorem dX5_isCarriedOut_229 : decode cX5_isCarriedOut 229 = .ok (.putfield 330, 3) := by decide +kernel
theorem dX5_isCarriedOut_232 : decode cX5_isCarriedOut 232 = .ok (.iload 6, 2) := by decide +kernel
theorem dX5_isCarriedOut_234 : decode cX5_isCarriedOut 234 = .ok (.ifCond .ne 7, 3) := by decide +kernel
theorem dX5_isCarriedOut_237 : decode cX5_isCarriedOut 237 = .ok (.iconst 1, 1) := by decide +kernel
theorem dX5_isCarriedOut_238 : decode cX5_isCarriedOut 238 = .ok (.goto 4, 3) := by decide +kernel
theorem dX5_isCarriedOut_241 : decode cX5_isCarriedOut 241 = .ok (.iconst 0, 1) := by decide +kernel
theorem dX5_isCarriedOut_242 : decode cX5_isCarriedOut 242 = .ok (.ireturn, 1) := by decide +kernel
theorem dX6_init_0 : decode cX6_init 0 = .ok (.aload_n 0, 1) := by decide +kernel
theorem dX6_init_1 : decode cX6_init 1 = .ok (.invokespecial 1, 3) := by decide +kernel
theorem dX6_init_4 : decode cX6_init 4 = .ok (.aload_n 0, 1) := by decide +kernel
theorem dX6_init_5 : decode cX6_init 5 = .ok (.sipush 580, 3) := by decide +kernel
theorem dX6_init_8 : decode cX6_init 8 = .ok (.newarray .int, 2) := by decide +kernel
theorem dX6_init_10 : decode cX6_init 10 = .ok (.putfield 9, 3) := by decide +kernel
theorem dX6_init_13 : decode cX6_init 13 = .ok (.aload_n 0, 1) := by decide +kernel
theorem dX6_init_14 : decode cX6_init 14 = .ok (.sipush 4640, 3) := by decide +kernel
theorem dX6_init_17 : decode cX6_init 17 = .ok (.newarray .int, 2) := by decide +kernel
theorem dX6_init_19 : decode cX6_init 19 = .ok (.putfield 13, 3) := by decide +kernel
theorem dX6_init_22 : decode cX6_init 22 = .ok (.aload_n 0, 1) := by decide +kernel
theorem dX6_init_23 : decode cX6_init 23 = .ok (.sipush 580, 3) := by decide +kernel
theorem dX6_init_26 : decode cX6_init 26 = .ok (.newarray .int, 2) := by decide +kernel
theorem dX6_init_28 : decode cX6_init 28 = .ok (.putfield 16, 3) := by decide +kernel
theorem dX6_init_31 : decode cX6_init 31 = .ok (.aload_n 0, 1) := by decide +kernel
theorem dX6_init_32 : decode cX6_init 32 = .ok (.sipush 580, 3) := by decide +kernel
theorem dX6_init_35 : decode cX6_init 35 = .ok (.newarray .int, 2) := by decide +kernel
theorem dX6_init_37 : decode cX6_init 37 = .ok (.putfield 19, 3) := by decide +kernel
theorem dX6_init_40 : decode cX6_init 40 = .ok (.aload_n 0, 1) := by decide +kernel
theorem dX6_init_41 : decode cX6_init 41 = .ok (.bipush 60, 2) := by decide +kernel
theorem dX6_init_43 : decode cX6_init 43 = .ok (.newarray .char, 2) := by decide +kernel
theorem dX6_init_45 : decode cX6_init 45 = .ok (.putfield 22, 3) := by decide +kernel
theorem dX6_init_48 : decode cX6_init 48 = .ok (.aload_n 0, 1) := by decide +kernel
theorem dX6_init_49 : decode cX6_init 49 = .ok (.iconst (-1), 1) := by decide +kernel
theorem dX6_init_50 : decode cX6_init 50 = .ok (.putfield 26, 3) := by decide +kernel
theorem dX6_init_53 : decode cX6_init 53 = .ok (.aload_n 0, 1) := by decide +kernel
theorem dX6_init_54 : decode cX6_init 54 = .ok (.sipush 1200, 3) := by decide +kernel
theorem dX6_init_57 : decode cX6_init 57 = .ok (.newarray .char, 2) := by decide +kernel
theorem dX6_init_59 : decode cX6_init 59 = .ok (.putfield 30, 3) := by decide +kernel
theorem dX6_init_62 : decode cX6_init 62 = .ok (.aload_n 0, 1) := by decide +kernel
theorem dX6_init_63 : decode cX6_init 63 = .ok (.sipush 300, 3) := by decide +kernel
theorem dX6_init_66 : decode cX6_init 66 = .ok (.newarray .int, 2) := by decide +kernel
theorem dX6_init_68 : decode cX6_init 68 = .ok (.putfield 33, 3) := by decide +kernel
theorem dX6_init_71 : decode cX6_init 71 = .ok (.aload_n 0, 1) := by decide +kernel
theorem dX6_init_72 : decode cX6_init 72 = .ok (.getfield 9, 3) := by decide +kernel
theorem dX6_init_75 : decode cX6_init 75 = .ok (.bipush 8, 2) := by decide +kernel
theorem dX6_init_77 : decode cX6_init 77 = .ok (.bipush 10, 2) := by decide +kernel
theorem dX6_init_79 : decode cX6_init 79 = .ok (.iastore, 1) := by decide +kernel
theorem dX6_init_80 : decode cX6_init 80 = .ok (.aload_n 0, 1) := by decide +kernel
theorem dX6_init_81 : decode cX6_init 81 = .ok (.getfield 9, 3) := by decide +kernel
theorem dX6_init_84 : decode cX6_init 84 = .ok (.bipush 9, 2) := by decide +kernel
theorem dX6_init_86 : decode cX6_init 86 = .ok (.iconst 2, 1) := by decide +kernel
theorem dX6_init_87 : decode cX6_init 87 = .ok (.iastore, 1) := by decide +kernel
theorem dX6_init_88 : decode cX6_init 88 = .ok (.aload_n 0, 1) := by decide +kernel
theorem dX6_init_89 : decode cX6_init 89 = .ok (.getfield 9, 3) := by decide +kernel
theorem dX6_init_92 : decode cX6_init 92 = .ok (.bipush 10, 2) := by decide +kernel
theorem dX6_init_94 : decode cX6_init 94 = .ok (.bipush 15, 2) := by decide +kernel
theorem dX6_init_96 : decode cX6_init 96 = .ok (.iastore, 1) := by decide +kernel
theorem dX6_init_97 : decode cX6_init 97 = .ok (.aload_n 0, 1) := by decide +kernel
theorem dX6_init_98 : decode cX6_init 98 = .ok (.getfield 9, 3) := by decide +kernel
theorem dX6_init_101 : decode cX6_init 101 = .ok (.bipush 11, 2) := by decide +kernel
theorem dX6_init_103 : decode cX6_init 103 = .ok (.bipush 10, 2) := by decide +kernel
theorem dX6_init_105 : decode cX6_init 105 = .ok (.iastore, 1) := by decide +kernel
theorem dX6_init_106 : decode cX6_init 106 = .ok (.aload_n 0, 1) := by decide +kernel
theorem dX6_init_107 : decode cX6_init 107 = .ok (.getfield 9, 3) := by decide +kernel
theorem dX6_init_110 : decode cX6_init 110 = .ok (.bipush 12, 2) := by decide +kernel
theorem dX6_init_112 : decode cX6_init 112 = .ok (.bipush 60, 2) := by decide +kernel
theorem dX6_init_114 : decode cX6_init 114 = .ok (.iastore, 1) := by decide +kernel
theorem dX6_init_115 : decode cX6_init 115 = .ok (.aload_n 0, 1) := by decide +kernel
theorem dX6_init_116 : decode cX6_init 116 = .ok (.getfield 9, 3) := by decide +kernel
theorem dX6_init_119 : decode cX6_init 119 = .ok (.bipush 13, 2) := by decide +kernel
theorem dX6_init_121 : decode cX6_init 121 = .ok (.bipush 10, 2) := by decide +kernel
theorem dX6_init_123 : decode cX6_init 123 = .ok (.iastore, 1) := by decide +kernel
theorem dX6_init_124 : decode cX6_init 124 = .ok (.iconst 0, 1) := by decide +kernel
theorem dX6_init_125 : decode cX6_init 125 = .ok (.istore_n 1, 1) := by decide +kernel
theorem dX6_init_126 : decode cX6_init 126 = .ok (.iload_n 1, 1) := by decide +kernel
theorem dX6_init_127 : decode cX6_init 127 = .ok (.bipush 16, 2) := by decide +kernel
theorem dX6_init_129 : decode cX6_init 129 = .ok (.if_icmp .ge 19, 3) := by decide +kernel
theorem dX6_init_132 : decode cX6_init 132 = .ok (.aload_n 0, 1) := by decide +kernel
theorem dX6_init_133 : decode cX6_init 133 = .ok (.getfield 9, 3) := by decide +kernel
theorem dX6_init_136 : decode cX6_init 136 = .ok (.bipush 14, 2) := by decide +kernel
theorem dX6_init_138 : decode cX6_init 138 = .ok (.iload_n 1, 1) := by decide +kernel
theorem dX6_init_139 : decode cX6_init 139 = .ok (.iadd, 1) := by decide +kernel
theorem dX6_init_140 : decode cX6_init 140 = .ok (.iconst 3, 1) := by decide +kernel
theorem dX6_init_141 : decode cX6_init 141 = .ok (.iastore, 1) := by decide +kernel
theorem dX6_init_142 : decode cX6_init 142 = .ok (.iinc 1 1, 3) := by decide +kernel
theorem dX6_init_145 : decode cX6_init 145 = .ok (.goto (-19), 3) := by decide +kernel
theorem dX6_init_148 : decode cX6_init 148 = .ok (.return_, 1) := by decide +kernel
theorem dX6_thrown_0 : decode cX6_thrown 0 = .ok (.aload_n 0, 1) := by decide +kernel
theorem dX6_thrown_1 : decode cX6_thrown 1 = .ok (.getfield 36, 3) := by decide +kernel
theorem dX6_thrown_4 : decode cX6_thrown 4 = .ok (.ireturn, 1) := by decide +kernel
theorem dX6_in_0 : decode cX6_in 0 = .ok (.iload_n 0, 1) := by decide +kernel
theorem dX6_in_1 : decode cX6_in 1 = .ok (.iload_n 1, 1) := by decide +kernel
theorem dX6_in_2 : decode cX6_in 2 = .ok (.if_icmp .lt 12, 3) := by decide +kernel
theorem dX6_in_5 : decode cX6_in 5 = .ok (.iload_n 0, 1) := by decide +kernel
theorem dX6_in_6 : decode cX6_in 6 = .ok (.iload_n 2, 1) := by decide +kernel
theorem dX6_in_7 : decode cX6_in 7 = .ok (.if_icmp .gt 7, 3) := by decide +kernel
theorem dX6_in_10 : decode cX6_in 10 = .ok (.iconst 1, 1) := by decide +kernel
theorem dX6_in_11 : decode cX6_in 11 = .ok (.goto 4, 3) := by decide +kernel
theorem dX6_in_14 : decode cX6_in 14 = .ok (.iconst 0, 1) := by decide +kernel
theorem dX6_in_15 : decode cX6_in 15 = .ok (.ireturn, 1) := by decide +kernel
theorem dX6_fails_0 : decode cX6_fails 0 = .ok (.aload_n 0, 1) := by decide +kernel
theorem dX6_fails_1 : decode cX6_fails 1 = .ok (.iload_n 1, 1) := by decide +kernel
theorem dX6_fails_2 : decode cX6_fails 2 = .ok (.putfield 36, 3) := by decide +kernel
theorem dX6_fails_5 : decode cX6_fails 5 = .ok (.iconst 0, 1) := by decide +kernel
theorem dX6_fails_6 : decode cX6_fails 6 = .ok (.ireturn, 1) := by decide +kernel
theorem dX6_done_0 : decode cX6_done 0 = .ok (.aload_n 0, 1) := by decide +kernel
theorem dX6_done_1 : decode cX6_done 1 = .ok (.iconst 0, 1) := by decide +kernel
theorem dX6_done_2 : decode cX6_done 2 = .ok (.putfield 36, 3) := by decide +kernel
theorem dX6_done_5 : decode cX6_done 5 = .ok (.iload_n 1, 1) := by decide +kernel
theorem dX6_done_6 : decode cX6_done 6 = .ok (.ireturn, 1) := by decide +kernel
theorem dX6_refuses_0 : decode cX6_refuses 0 = .ok (.aload_n 0, 1) := by decide +kernel
theorem dX6_refuses_1 : decode cX6_refuses 1 = .ok (.iload_n 1, 1) := by decide +kernel
theorem dX6_refuses_2 : decode cX6_refuses 2 = .ok (.putfield 39, 3) := by decide +kernel
theorem dX6_refuses_5 : decode cX6_refuses 5 = .ok (.aload_n 0, 1) := by decide +kernel
theorem dX6_refuses_6 : decode cX6_refuses 6 = .ok (.iload_n 2, 1) := by decide +kernel
theorem dX6_refuses_7 : decode cX6_refuses 7 = .ok (.putfield 42, 3) := by decide +kernel
theorem dX6_refuses_10 : decode cX6_refuses 10 = .ok (.aload_n 0, 1) := by decide +kernel
theorem dX6_refuses_11 : decode cX6_refuses 11 = .ok (.iload_n 3, 1) := by decide +kernel
theorem dX6_refuses_12 : decode cX6_refuses 12 = .ok (.invokevirtual 45, 3) := by decide +kernel
theorem dX6_refuses_15 : decode cX6_refuses 15 = .ok (.ireturn, 1) := by decide +kernel
theorem dX6_copy_0 : decode cX6_copy 0 = .ok (.iconst 0, 1) := by decide +kernel
theorem dX6_copy_1 : decode cX6_copy 1 = .ok (.istore 4, 2) := by decide +kernel
theorem dX6_copy_3 : decode cX6_copy 3 = .ok (.iload 4, 2) := by decide +kernel
theorem dX6_copy_5 : decode cX6_copy 5 = .ok (.sipush 580, 3) := by decide +kernel
theorem dX6_copy_8 : decode cX6_copy 8 = .ok (.if_icmp .ge 21, 3) := by decide +kernel
theorem dX6_copy_11 : decode cX6_copy 11 = .ok (.aload_n 2, 1) := by decide +kernel
theorem dX6_copy_12 : decode cX6_copy 12 = .ok (.iload_n 3, 1) := by decide +kernel
theorem dX6_copy_13 : decode cX6_copy 13 = .ok (.iload 4, 2) := by decide +kernel
theorem dX6_copy_15 : decode cX6_copy 15 = .ok (.iadd, 1) := by decide +kernel
theorem dX6_copy_16 : decode cX6_copy 16 = .ok (.aload_n 0, 1) := by decide +kernel
theorem dX6_copy_17 : decode cX6_copy 17 = .ok (.iload_n 1, 1) := by decide +kernel
theorem dX6_copy_18 : decode cX6_copy 18 = .ok (.iload 4, 2) := by decide +kernel
theorem dX6_copy_20 : decode cX6_copy 20 = .ok (.iadd, 1) := by decide +kernel
theorem dX6_copy_21 : decode cX6_copy 21 = .ok (.iaload, 1) := by decide +kernel
theorem dX6_copy_22 : decode cX6_copy 22 = .ok (.iastore, 1) := by decide +kernel
theorem dX6_copy_23 : decode cX6_copy 23 = .ok (.iinc 4 1, 3) := by decide +kernel
theorem dX6_copy_26 : decode cX6_copy 26 = .ok (.goto (-23), 3) := by decide +kernel
theorem dX6_copy_29 : decode cX6_copy 29 = .ok (.return_, 1) := by decide +kernel
theorem dX6_remembersRow_0 : decode cX6_remembersRow 0 = .ok (.aload_n 0, 1) := by decide +kernel
theorem dX6_remembersRow_1 : decode cX6_remembersRow 1 = .ok (.getfield 49, 3) := by decide +kernel
theorem dX6_remembersRow_4 : decode cX6_remembersRow 4 = .ok (.bipush 8, 2) := by decide +kernel
theorem dX6_remembersRow_6 : decode cX6_remembersRow 6 = .ok (.if_icmp .ne 44, 3) := by decide +kernel
theorem dX6_remembersRow_9 : decode cX6_remembersRow 9 = .ok (.iconst 0, 1) := by decide +kernel
theorem dX6_remembersRow_10 : decode cX6_remembersRow 10 = .ok (.istore_n 2, 1) := by decide +kernel
theorem dX6_remembersRow_11 : decode cX6_remembersRow 11 = .ok (.iload_n 2, 1) := by decide +kernel
theorem dX6_remembersRow_12 : decode cX6_remembersRow 12 = .ok (.sipush 4060, 3) := by decide +kernel
theorem dX6_remembersRow_15 : decode cX6_remembersRow 15 = .ok (.if_icmp .ge 25, 3) := by decide +kernel
theorem dX6_remembersRow_18 : decode cX6_remembersRow 18 = .ok (.aload_n 0, 1) := by decide +kernel
theorem dX6_remembersRow_19 : decode cX6_remembersRow 19 = .ok (.getfield 13, 3) := by decide +kernel
theorem dX6_remembersRow_22 : decode cX6_remembersRow 22 = .ok (.iload_n 2, 1) := by decide +kernel
theorem dX6_remembersRow_23 : decode cX6_remembersRow 23 = .ok (.aload_n 0, 1) := by decide +kernel
theorem dX6_remembersRow_24 : decode cX6_remembersRow 24 = .ok (.getfield 13, 3) := by decide +kernel
theorem dX6_remembersRow_27 : decode cX6_remembersRow 27 = .ok (.iload_n 2, 1) := by decide +kernel
theorem dX6_remembersRow_28 : decode cX6_remembersRow 28 = .ok (.sipush 580, 3) := by decide +kernel
theorem dX6_remembersRow_31 : decode cX6_remembersRow 31 = .ok (.iadd, 1) := by decide +kernel
theorem dX6_remembersRow_32 : decode cX6_remembersRow 32 = .ok (.iaload, 1) := by decide +kernel
theorem dX6_remembersRow_33 : decode cX6_remembersRow 33 = .ok (.iastore, 1) := by decide +kernel
theorem dX6_remembersRow_34 : decode cX6_remembersRow 34 = .ok (.iinc 2 1, 3) := by decide +kernel
theorem dX6_remembersRow_37 : decode cX6_remembersRow 37 = .ok (.goto (-26), 3) := by decide +kernel
theorem dX6_remembersRow_40 : decode cX6_remembersRow 40 = .ok (.aload_n 0, 1) := by decide +kernel
theorem dX6_remembersRow_41 : decode cX6_remembersRow 41 = .ok (.dup, 1) := by decide +kernel
theorem dX6_remembersRow_42 : decode cX6_remembersRow 42 = .ok (.getfield 49, 3) := by decide +kernel
theorem dX6_remembersRow_45 : decode cX6_remembersRow 45 = .ok (.iconst 1, 1) := by decide +kernel
theorem dX6_remembersRow_46 : decode cX6_remembersRow 46 = .ok (.isub, 1) := by decide +kernel
theorem dX6_remembersRow_47 : decode cX6_remembersRow 47 = .ok (.putfield 49, 3) := by decide +kernel
theorem dX6_remembersRow_50 : decode cX6_remembersRow 50 = .ok (.aload_n 1, 1) := by decide +kernel
theorem dX6_remembersRow_51 : decode cX6_remembersRow 51 = .ok (.iconst 0, 1) := by decide +kernel
theorem dX6_remembersRow_52 : decode cX6_remembersRow 52 = .ok (.aload_n 0, 1) := by decide +kernel
theorem dX6_remembersRow_53 : decode cX6_remembersRow 53 = .ok (.getfield 13, 3) := by decide +kernel
theorem dX6_remembersRow_56 : decode cX6_remembersRow 56 = .ok (.aload_n 0, 1) := by decide +kernel
theorem dX6_remembersRow_57 : decode cX6_remembersRow 57 = .ok (.getfield 49, 3) := by decide +kernel
theorem dX6_remembersRow_60 : decode cX6_remembersRow 60 = .ok (.sipush 580, 3) := by decide +kernel
theorem dX6_remembersRow_63 : decode cX6_remembersRow 63 = .ok (.imul, 1) := by decide +kernel
theorem dX6_remembersRow_64 : decode cX6_remembersRow 64 = .ok (.invokestatic 52, 3) := by decide +kernel
theorem dX6_remembersRow_67 : decode cX6_remembersRow 67 = .ok (.aload_n 0, 1) := by decide +kernel
theorem dX6_remembersRow_68 : decode cX6_remembersRow 68 = .ok (.dup, 1) := by decide +kernel
theorem dX6_remembersRow_69 : decode cX6_remembersRow 69 = .ok (.getfield 49, 3) := by decide +kernel
theorem dX6_remembersRow_72 : decode cX6_remembersRow 72 = .ok (.iconst 1, 1) := by decide +kernel
theorem dX6_remembersRow_73 : decode cX6_remembersRow 73 = .ok (.iadd, 1) := by decide +kernel
theorem dX6_remembersRow_74 : decode cX6_remembersRow 74 = .ok (.putfield 49, 3) := by decide +kernel
theorem dX6_remembersRow_77 : decode cX6_remembersRow 77 = .ok (.return_, 1) := by decide +kernel
theorem dX6_remembers_0 : decode cX6_remembers 0 = .ok (.aload_n 0, 1) := by decide +kernel
theorem dX6_remembers_1 : decode cX6_remembers 1 = .ok (.getfield 56, 3) := by decide +kernel
theorem dX6_remembers_4 : decode cX6_remembers 4 = .ok (.ifCond .ne 11, 3) := by decide +kernel
theorem dX6_remembers_7 : decode cX6_remembers 7 = .ok (.aload_n 0, 1) := by decide +kernel
theorem dX6_remembers_8 : decode cX6_remembers 8 = .ok (.aload_n 0, 1) := by decide +kernel
theorem dX6_remembers_9 : decode cX6_remembers 9 = .ok (.getfield 9, 3) := by decide +kernel
theorem dX6_remembers_12 : decode cX6_remembers 12 = .ok (.invokevirtual 60, 3) := by decide +kernel
theorem dX6_remembers_15 : decode cX6_remembers 15 = .ok (.return_, 1) := by decide +kernel
theorem dX6_hallAt_0 : decode cX6_hallAt 0 = .ok (.aload_n 0, 1) := by decide +kernel
theorem dX6_hallAt_1 : decode cX6_hallAt 1 = .ok (.getfield 9, 3) := by decide +kernel
theorem dX6_hallAt_4 : decode cX6_hallAt 4 = .ok (.bipush 30, 2) := by decide +kernel
theorem dX6_hallAt_6 : decode cX6_hallAt 6 = .ok (.iconst 4, 1) := by decide +kernel
theorem dX6_hallAt_7 : decode cX6_hallAt 7 = .ok (.iload_n 1, 1) := by decide +kernel
theorem dX6_hallAt_8 : decode cX6_hallAt 8 = .ok (.imul, 1) := by decide +kernel
theorem dX6_hallAt_9 : decode cX6_hallAt 9 = .ok (.iadd, 1) := by decide +kernel
theorem dX6_hallAt_10 : decode cX6_hallAt 10 = .ok (.iload_n 2, 1) := by decide +kernel
theorem dX6_hallAt_11 : decode cX6_hallAt 11 = .ok (.iadd, 1) := by decide +kernel
theorem dX6_hallAt_12 : decode cX6_hallAt 12 = .ok (.iaload, 1) := by decide +kernel
theorem dX6_hallAt_13 : decode cX6_hallAt 13 = .ok (.ireturn, 1) := by decide +kernel
theorem dX6_filmAt_0 : decode cX6_filmAt 0 = .ok (.aload_n 0, 1) := by decide +kernel
theorem dX6_filmAt_1 : decode cX6_filmAt 1 = .ok (.getfield 9, 3) := by decide +kernel
theorem dX6_filmAt_4 : decode cX6_filmAt 4 = .ok (.bipush 54, 2) := by decide +kernel
theorem dX6_filmAt_6 : decode cX6_filmAt 6 = .ok (.bipush 8, 2) := by decide +kernel
theorem dX6_filmAt_8 : decode cX6_filmAt 8 = .ok (.iload_n 1, 1) := by decide +kernel
theorem dX6_filmAt_9 : decode cX6_filmAt 9 = .ok (.imul, 1) := by decide +kernel
theorem dX6_filmAt_10 : decode cX6_filmAt 10 = .ok (.iadd, 1) := by decide +kernel
theorem dX6_filmAt_11 : decode cX6_filmAt 11 = .ok (.iload_n 2, 1) := by decide +kernel
theorem dX6_filmAt_12 : decode cX6_filmAt 12 = .ok (.iadd, 1) := by decide +kernel
theorem dX6_filmAt_13 : decode cX6_filmAt 13 = .ok (.iaload, 1) := by decide +kernel
theorem dX6_filmAt_14 : decode cX6_filmAt 14 = .ok (.ireturn, 1) := by decide +kernel
theorem dX6_trailerAt_0 : decode cX6_trailerAt 0 = .ok (.aload_n 0, 1) := by decide +kernel
theorem dX6_trailerAt_1 : decode cX6_trailerAt 1 = .ok (.getfield 9, 3) := by decide +kernel
theorem dX6_trailerAt_4 : decode cX6_trailerAt 4 = .ok (.bipush 118, 2) := by decide +kernel
theorem dX6_trailerAt_6 : decode cX6_trailerAt 6 = .ok (.iconst 4, 1) := by decide +kernel
theorem dX6_trailerAt_7 : decode cX6_trailerAt 7 = .ok (.iload_n 1, 1) := by decide +kernel
theorem dX6_trailerAt_8 : decode cX6_trailerAt 8 = .ok (.imul, 1) := by decide +kernel
theorem dX6_trailerAt_9 : decode cX6_trailerAt 9 = .ok (.iadd, 1) := by decide +kernel
theorem dX6_trailerAt_10 : decode cX6_trailerAt 10 = .ok (.iload_n 2, 1) := by decide +kernel
theorem dX6_trailerAt_11 : decode cX6_trailerAt 11 = .ok (.iadd, 1) := by decide +kernel
theorem dX6_trailerAt_12 : decode cX6_trailerAt 12 = .ok (.iaload, 1) := by decide +kernel
theorem dX6_trailerAt_13 : decode cX6_trailerAt 13 = .ok (.ireturn, 1) := by decide +kernel
theorem dX6_showAt_0 : decode cX6_showAt 0 = .ok (.aload_n 0, 1) := by decide +kernel
theorem dX6_showAt_1 : decode cX6_showAt 1 = .ok (.getfield 9, 3) := by decide +kernel
theorem dX6_showAt_4 : decode cX6_showAt 4 = .ok (.sipush 158, 3) := by decide +kernel
theorem dX6_showAt_7 : decode cX6_showAt 7 = .ok (.bipush 9, 2) := by decide +kernel
theorem dX6_showAt_9 : decode cX6_showAt 9 = .ok (.iload_n 1, 1) := by decide +kernel
theorem dX6_showAt_10 : decode cX6_showAt 10 = .ok (.imul, 1) := by decide +kernel
theorem dX6_showAt_11 : decode cX6_showAt 11 = .ok (.iadd, 1) := by decide +kernel
theorem dX6_showAt_12 : decode cX6_showAt 12 = .ok (.iload_n 2, 1) := by decide +kernel
theorem dX6_showAt_13 : decode cX6_showAt 13 = .ok (.iadd, 1) := by decide +kernel
theorem dX6_showAt_14 : decode cX6_showAt 14 = .ok (.iaload, 1) := by decide +kernel
theorem dX6_showAt_15 : decode cX6_showAt 15 = .ok (.ireturn, 1) := by decide +kernel
theorem dX6_isHall_0 : decode cX6_isHall 0 = .ok (.iload_n 1, 1) := by decide +kernel
theorem dX6_isHall_1 : decode cX6_isHall 1 = .ok (.iconst 0, 1) := by decide +kernel
theorem dX6_isHall_2 : decode cX6_isHall 2 = .ok (.aload_n 0, 1) := by decide +kernel
theorem dX6_isHall_3 : decode cX6_isHall 3 = .ok (.getfield 9, 3) := by decide +kernel
theorem dX6_isHall_6 : decode cX6_isHall 6 = .ok (.iconst 1, 1) := by decide +kernel
theorem dX6_isHall_7 : decode cX6_isHall 7 = .ok (.iaload, 1) := by decide +kernel
theorem dX6_isHall_8 : decode cX6_isHall 8 = .ok (.iconst 1, 1) := by decide +kernel
theorem dX6_isHall_9 : decode cX6_isHall 9 = .ok (.isub, 1) := by decide +kernel
theorem dX6_isHall_10 : decode cX6_isHall 10 = .ok (.invokestatic 64, 3) := by decide +kernel
theorem dX6_isHall_13 : decode cX6_isHall 13 = .ok (.ireturn, 1) := by decide +kernel
theorem dX6_isFilm_0 : decode cX6_isFilm 0 = .ok (.iload_n 1, 1) := by decide +kernel
theorem dX6_isFilm_1 : decode cX6_isFilm 1 = .ok (.iconst 0, 1) := by decide +kernel
theorem dX6_isFilm_2 : decode cX6_isFilm 2 = .ok (.aload_n 0, 1) := by decide +kernel
theorem dX6_isFilm_3 : decode cX6_isFilm 3 = .ok (.getfield 9, 3) := by decide +kernel
theorem dX6_isFilm_6 : decode cX6_isFilm 6 = .ok (.iconst 2, 1) := by decide +kernel
theorem dX6_isFilm_7 : decode cX6_isFilm 7 = .ok (.iaload, 1) := by decide +kernel
theorem dX6_isFilm_8 : decode cX6_isFilm 8 = .ok (.iconst 1, 1) := by decide +kernel
theorem dX6_isFilm_9 : decode cX6_isFilm 9 = .ok (.isub, 1) := by decide +kernel
theorem dX6_isFilm_10 : decode cX6_isFilm 10 = .ok (.invokestatic 64, 3) := by decide +kernel
theorem dX6_isFilm_13 : decode cX6_isFilm 13 = .ok (.ireturn, 1) := by decide +kernel
theorem dX6_isShow_0 : decode cX6_isShow 0 = .ok (.iload_n 1, 1) := by decide +kernel
theorem dX6_isShow_1 : decode cX6_isShow 1 = .ok (.iconst 0, 1) := by decide +kernel
theorem dX6_isShow_2 : decode cX6_isShow 2 = .ok (.aload_n 0, 1) := by decide +kernel
theorem dX6_isShow_3 : decode cX6_isShow 3 = .ok (.getfield 9, 3) := by decide +kernel
theorem dX6_isShow_6 : decode cX6_isShow 6 = .ok (.iconst 4, 1) := by decide +kernel
theorem dX6_isShow_7 : decode cX6_isShow 7 = .ok (.iaload, 1) := by decide +kernel
theorem dX6_isShow_8 : decode cX6_isShow 8 = .ok (.iconst 1, 1) := by decide +kernel
theorem dX6_isShow_9 : decode cX6_isShow 9 = .ok (.isub, 1) := by decide +kernel
theorem dX6_isShow_10 : decode cX6_isShow 10 = .ok (.invokestatic 64, 3) := by decide +kernel
theorem dX6_isShow_13 : decode cX6_isShow 13 = .ok (.ireturn, 1) := by decide +kernel
theorem dX6_isDay_0 : decode cX6_isDay 0 = .ok (.iload_n 0, 1) := by decide +kernel
theorem dX6_isDay_1 : decode cX6_isDay 1 = .ok (.iconst 0, 1) := by decide +kernel
theorem dX6_isDay_2 : decode cX6_isDay 2 = .ok (.bipush 59, 2) := by decide +kernel
theorem dX6_isDay_4 : decode cX6_isDay 4 = .ok (.invokestatic 64, 3) := by decide +kernel
theorem dX6_isDay_7 : decode cX6_isDay 7 = .ok (.ireturn, 1) := by decide +kernel
theorem dX6_addHall_0 : decode cX6_addHall 0 = .ok (.iload_n 1, 1) := by decide +kernel
theorem dX6_addHall_1 : decode cX6_addHall 1 = .ok (.iconst 1, 1) := by decide +kernel
theorem dX6_addHall_2 : decode cX6_addHall 2 = .ok (.sipush 400, 3) := by decide +kernel
theorem dX6_addHall_5 : decode cX6_addHall 5 = .ok (.invokestatic 64, 3) := by decide +kernel
theorem dX6_addHall_8 : decode cX6_addHall 8 = .ok (.ifCond .eq 22, 3) := by decide +kernel
theorem dX6_addHall_11 : decode cX6_addHall 11 = .ok (.iload_n 2, 1) := by decide +kernel
theorem dX6_addHall_12 : decode cX6_addHall 12 = .ok (.iconst 0, 1) := by decide +kernel
theorem dX6_addHall_13 : decode cX6_addHall 13 = .ok (.bipush 40, 2) := by decide +kernel
theorem dX6_addHall_15 : decode cX6_addHall 15 = .ok (.invokestatic 64, 3) := by decide +kernel
theorem dX6_addHall_18 : decode cX6_addHall 18 = .ok (.ifCond .eq 12, 3) := by decide +kernel
theorem dX6_addHall_21 : decode cX6_addHall 21 = .ok (.iload_n 3, 1) := by decide +kernel
theorem dX6_addHall_22 : decode cX6_addHall 22 = .ok (.iconst 0, 1) := by decide +kernel
theorem dX6_addHall_23 : decode cX6_addHall 23 = .ok (.iconst 2, 1) := by decide +kernel
theorem dX6_addHall_24 : decode cX6_addHall 24 = .ok (.invokestatic 64, 3) := by decide +kernel
theorem dX6_addHall_27 : decode cX6_addHall 27 = .ok (.ifCond .ne 9, 3) := by decide +kernel
theorem dX6_addHall_30 : decode cX6_addHall 30 = .ok (.aload_n 0, 1) := by decide +kernel
theorem dX6_addHall_31 : decode cX6_addHall 31 = .ok (.iconst 1, 1) := by decide +kernel
theorem dX6_addHall_32 : decode cX6_addHall 32 = .ok (.invokevirtual 45, 3) := by decide +kernel
theorem dX6_addHall_35 : decode cX6_addHall 35 = .ok (.ireturn, 1) := by decide +kernel
theorem dX6_addHall_36 : decode cX6_addHall 36 = .ok (.aload_n 0, 1) := by decide +kernel
theorem dX6_addHall_37 : decode cX6_addHall 37 = .ok (.getfield 9, 3) := by decide +kernel
theorem dX6_addHall_40 : decode cX6_addHall 40 = .ok (.iconst 1, 1) := by decide +kernel
theorem dX6_addHall_41 : decode cX6_addHall 41 = .ok (.iaload, 1) := by decide +kernel
theorem dX6_addHall_42 : decode cX6_addHall 42 = .ok (.bipush 6, 2) := by decide +kernel
theorem dX6_addHall_44 : decode cX6_addHall 44 = .ok (.if_icmp .ne 9, 3) := by decide +kernel
theorem dX6_addHall_47 : decode cX6_addHall 47 = .ok (.aload_n 0, 1) := by decide +kernel
theorem dX6_addHall_48 : decode cX6_addHall 48 = .ok (.iconst 2, 1) := by decide +kernel
theorem dX6_addHall_49 : decode cX6_addHall 49 = .ok (.invokevirtual 45, 3) := by decide +kernel
theorem dX6_addHall_52 : decode cX6_addHall 52 = .ok (.ireturn, 1) := by decide +kernel
theorem dX6_addHall_53 : decode cX6_addHall 53 = .ok (.aload_n 0, 1) := by decide +kernel
theorem dX6_addHall_54 : decode cX6_addHall 54 = .ok (.invokevirtual 68, 3) := by decide +kernel
theorem dX6_addHall_57 : decode cX6_addHall 57 = .ok (.bipush 30, 2) := by decide +kernel
theorem dX6_addHall_59 : decode cX6_addHall 59 = .ok (.iconst 4, 1) := by decide +kernel
theorem dX6_addHall_60 : decode cX6_addHall 60 = .ok (.aload_n 0, 1) := by decide +kernel
theorem dX6_addHall_61 : decode cX6_addHall 61 = .ok (.getfield 9, 3) := by decide +kernel
theorem dX6_addHall_64 : decode cX6_addHall 64 = .ok (.iconst 1, 1) := by decide +kernel
theorem dX6_addHall_65 : decode cX6_addHall 65 = .ok (.iaload, 1) := by decide +kernel
theorem dX6_addHall_66 : decode cX6_addHall 66 = .ok (.imul, 1) := by decide +kernel
theorem dX6_addHall_67 : decode cX6_addHall 67 = .ok (.iadd, 1) := by decide +kernel
theorem dX6_addHall_68 : decode cX6_addHall 68 = .ok (.istore 4, 2) := by decide +kernel
theorem dX6_addHall_70 : decode cX6_addHall 70 = .ok (.aload_n 0, 1) := by decide +kernel
theorem dX6_addHall_71 : decode cX6_addHall 71 = .ok (.getfield 9, 3) := by decide +kernel
theorem dX6_addHall_74 : decode cX6_addHall 74 = .ok (.iload 4, 2) := by decide +kernel
theorem dX6_addHall_76 : decode cX6_addHall 76 = .ok (.iload_n 1, 1) := by decide +kernel
theorem dX6_addHall_77 : decode cX6_addHall 77 = .ok (.iastore, 1) := by decide +kernel
theorem dX6_addHall_78 : decode cX6_addHall 78 = .ok (.aload_n 0, 1) := by decide +kernel
theorem dX6_addHall_79 : decode cX6_addHall 79 = .ok (.getfield 9, 3) := by decide +kernel
theorem dX6_addHall_82 : decode cX6_addHall 82 = .ok (.iload 4, 2) := by decide +kernel
theorem dX6_addHall_84 : decode cX6_addHall 84 = .ok (.iconst 1, 1) := by decide +kernel
theorem dX6_addHall_85 : decode cX6_addHall 85 = .ok (.iadd, 1) := by decide +kernel
theorem dX6_addHall_86 : decode cX6_addHall 86 = .ok (.iload_n 2, 1) := by decide +kernel
theorem dX6_addHall_87 : decode cX6_addHall 87 = .ok (.iastore, 1) := by decide +kernel
theorem dX6_addHall_88 : decode cX6_addHall 88 = .ok (.aload_n 0, 1) := by decide +kernel
theorem dX6_addHall_89 : decode cX6_addHall 89 = .ok (.getfield 9, 3) := by decide +kernel
theorem dX6_addHall_92 : decode cX6_addHall 92 = .ok (.iload 4, 2) := by decide +kernel
theorem dX6_addHall_94 : decode cX6_addHall 94 = .ok (.iconst 2, 1) := by decide +kernel
theorem dX6_addHall_95 : decode cX6_addHall 95 = .ok (.iadd, 1) := by decide +kernel
theorem dX6_addHall_96 : decode cX6_addHall 96 = .ok (.iload_n 3, 1) := by decide +kernel
theorem dX6_addHall_97 : decode cX6_addHall 97 = .ok (.iastore, 1) := by decide +kernel
theorem dX6_addHall_98 : decode cX6_addHall 98 = .ok (.aload_n 0, 1) := by decide +kernel
theorem dX6_addHall_99 : decode cX6_addHall 99 = .ok (.getfield 9, 3) := by decide +kernel
theorem dX6_addHall_102 : decode cX6_addHall 102 = .ok (.iload 4, 2) := by decide +kernel
theorem dX6_addHall_104 : decode cX6_addHall 104 = .ok (.iconst 3, 1) := by decide +kernel
theorem dX6_addHall_105 : decode cX6_addHall 105 = .ok (.iadd, 1) := by decide +kernel
theorem dX6_addHall_106 : decode cX6_addHall 106 = .ok (.iconst (-1), 1) := by decide +kernel
theorem dX6_addHall_107 : decode cX6_addHall 107 = .ok (.iastore, 1) := by decide +kernel
theorem dX6_addHall_108 : decode cX6_addHall 108 = .ok (.aload_n 0, 1) := by decide +kernel
theorem dX6_addHall_109 : decode cX6_addHall 109 = .ok (.getfield 9, 3) := by decide +kernel
theorem dX6_addHall_112 : decode cX6_addHall 112 = .ok (.iconst 1, 1) := by decide +kernel
theorem dX6_addHall_113 : decode cX6_addHall 113 = .ok (.dup2, 1) := by decide +kernel
theorem dX6_addHall_114 : decode cX6_addHall 114 = .ok (.iaload, 1) := by decide +kernel
theorem dX6_addHall_115 : decode cX6_addHall 115 = .ok (.iconst 1, 1) := by decide +kernel
theorem dX6_addHall_116 : decode cX6_addHall 116 = .ok (.iadd, 1) := by decide +kernel
theorem dX6_addHall_117 : decode cX6_addHall 117 = .ok (.iastore, 1) := by decide +kernel
theorem dX6_addHall_118 : decode cX6_addHall 118 = .ok (.aload_n 0, 1) := by decide +kernel
theorem dX6_addHall_119 : decode cX6_addHall 119 = .ok (.aload_n 0, 1) := by decide +kernel
theorem dX6_addHall_120 : decode cX6_addHall 120 = .ok (.getfield 9, 3) := by decide +kernel
theorem dX6_addHall_123 : decode cX6_addHall 123 = .ok (.iconst 1, 1) := by decide +kernel
theorem dX6_addHall_124 : decode cX6_addHall 124 = .ok (.iaload, 1) := by decide +kernel
theorem dX6_addHall_125 : decode cX6_addHall 125 = .ok (.iconst 1, 1) := by decide +kernel
theorem dX6_addHall_126 : decode cX6_addHall 126 = .ok (.isub, 1) := by decide +kernel
theorem dX6_addHall_127 : decode cX6_addHall 127 = .ok (.invokevirtual 71, 3) := by decide +kernel
theorem dX6_addHall_130 : decode cX6_addHall 130 = .ok (.ireturn, 1) := by decide +kernel
theorem dX6_addFilm_0 : decode cX6_addFilm 0 = .ok (.iload_n 1, 1) := by decide +kernel
theorem dX6_addFilm_1 : decode cX6_addFilm 1 = .ok (.bipush 30, 2) := by decide +kernel
theorem dX6_addFilm_3 : decode cX6_addFilm 3 = .ok (.sipush 240, 3) := by decide +kernel
theorem dX6_addFilm_6 : decode cX6_addFilm 6 = .ok (.invokestatic 64, 3) := by decide +kernel
theorem dX6_addFilm_9 : decode cX6_addFilm 9 = .ok (.ifCond .eq 40, 3) := by decide +kernel
theorem dX6_addFilm_12 : decode cX6_addFilm 12 = .ok (.iload_n 2, 1) := by decide +kernel
theorem dX6_addFilm_13 : decode cX6_addFilm 13 = .ok (.iconst 0, 1) := by decide +kernel
theorem dX6_addFilm_14 : decode cX6_addFilm 14 = .ok (.iconst 3, 1) := by decide +kernel
theorem dX6_addFilm_15 : decode cX6_addFilm 15 = .ok (.invokestatic 64, 3) := by decide +kernel
theorem dX6_addFilm_18 : decode cX6_addFilm 18 = .ok (.ifCond .eq 31, 3) := by decide +kernel
theorem dX6_addFilm_21 : decode cX6_addFilm 21 = .ok (.iload_n 3, 1) := by decide +kernel
theorem dX6_addFilm_22 : decode cX6_addFilm 22 = .ok (.iconst 1, 1) := by decide +kernel
theorem dX6_addFilm_23 : decode cX6_addFilm 23 = .ok (.bipush 63, 2) := by decide +kernel
theorem dX6_addFilm_25 : decode cX6_addFilm 25 = .ok (.invokestatic 64, 3) := by decide +kernel
theorem dX6_addFilm_28 : decode cX6_addFilm 28 = .ok (.ifCond .eq 21, 3) := by decide +kernel
theorem dX6_addFilm_31 : decode cX6_addFilm 31 = .ok (.iload 4, 2) := by decide +kernel
theorem dX6_addFilm_33 : decode cX6_addFilm 33 = .ok (.iconst 1, 1) := by decide +kernel
theorem dX6_addFilm_34 : decode cX6_addFilm 34 = .ok (.iconst 3, 1) := by decide +kernel
theorem dX6_addFilm_35 : decode cX6_addFilm 35 = .ok (.invokestatic 64, 3) := by decide +kernel
theorem dX6_addFilm_38 : decode cX6_addFilm 38 = .ok (.ifCond .eq 11, 3) := by decide +kernel
theorem dX6_addFilm_41 : decode cX6_addFilm 41 = .ok (.iload 5, 2) := by decide +kernel
theorem dX6_addFilm_43 : decode cX6_addFilm 43 = .ok (.invokestatic 74, 3) := by decide +kernel
theorem dX6_addFilm_46 : decode cX6_addFilm 46 = .ok (.ifCond .ne 9, 3) := by decide +kernel
theorem dX6_addFilm_49 : decode cX6_addFilm 49 = .ok (.aload_n 0, 1) := by decide +kernel
theorem dX6_addFilm_50 : decode cX6_addFilm 50 = .ok (.iconst 1, 1) := by decide +kernel
theorem dX6_addFilm_51 : decode cX6_addFilm 51 = .ok (.invokevirtual 45, 3) := by decide +kernel
theorem dX6_addFilm_54 : decode cX6_addFilm 54 = .ok (.ireturn, 1) := by decide +kernel
theorem dX6_addFilm_55 : decode cX6_addFilm 55 = .ok (.aload_n 0, 1) := by decide +kernel
theorem dX6_addFilm_56 : decode cX6_addFilm 56 = .ok (.getfield 9, 3) := by decide +kernel
theorem dX6_addFilm_59 : decode cX6_addFilm 59 = .ok (.iconst 2, 1) := by decide +kernel
theorem dX6_addFilm_60 : decode cX6_addFilm 60 = .ok (.iaload, 1) := by decide +kernel
theorem dX6_addFilm_61 : decode cX6_addFilm 61 = .ok (.bipush 8, 2) := by decide +kernel
theorem dX6_addFilm_63 : decode cX6_addFilm 63 = .ok (.if_icmp .ne 9, 3) := by decide +kernel
theorem dX6_addFilm_66 : decode cX6_addFilm 66 = .ok (.aload_n 0, 1) := by decide +kernel
theorem dX6_addFilm_67 : decode cX6_addFilm 67 = .ok (.iconst 2, 1) := by decide +kernel
theorem dX6_addFilm_68 : decode cX6_addFilm 68 = .ok (.invokevirtual 45, 3) := by decide +kernel
theorem dX6_addFilm_71 : decode cX6_addFilm 71 = .ok (.ireturn, 1) := by decide +kernel
theorem dX6_addFilm_72 : decode cX6_addFilm 72 = .ok (.aload_n 0, 1) := by decide +kernel
theorem dX6_addFilm_73 : decode cX6_addFilm 73 = .ok (.invokevirtual 68, 3) := by decide +kernel
theorem dX6_addFilm_76 : decode cX6_addFilm 76 = .ok (.bipush 54, 2) := by decide +kernel
theorem dX6_addFilm_78 : decode cX6_addFilm 78 = .ok (.bipush 8, 2) := by decide +kernel
theorem dX6_addFilm_80 : decode cX6_addFilm 80 = .ok (.aload_n 0, 1) := by decide +kernel
theorem dX6_addFilm_81 : decode cX6_addFilm 81 = .ok (.getfield 9, 3) := by decide +kernel
theorem dX6_addFilm_84 : decode cX6_addFilm 84 = .ok (.iconst 2, 1) := by decide +kernel
theorem dX6_addFilm_85 : decode cX6_addFilm 85 = .ok (.iaload, 1) := by decide +kernel
theorem dX6_addFilm_86 : decode cX6_addFilm 86 = .ok (.imul, 1) := by decide +kernel
theorem dX6_addFilm_87 : decode cX6_addFilm 87 = .ok (.iadd, 1) := by decide +kernel
theorem dX6_addFilm_88 : decode cX6_addFilm 88 = .ok (.istore 6, 2) := by decide +kernel
theorem dX6_addFilm_90 : decode cX6_addFilm 90 = .ok (.aload_n 0, 1) := by decide +kernel
theorem dX6_addFilm_91 : decode cX6_addFilm 91 = .ok (.getfield 9, 3) := by decide +kernel
theorem dX6_addFilm_94 : decode cX6_addFilm 94 = .ok (.iload 6, 2) := by decide +kernel
theorem dX6_addFilm_96 : decode cX6_addFilm 96 = .ok (.iload_n 1, 1) := by decide +kernel
theorem dX6_addFilm_97 : decode cX6_addFilm 97 = .ok (.iastore, 1) := by decide +kernel
theorem dX6_addFilm_98 : decode cX6_addFilm 98 = .ok (.aload_n 0, 1) := by decide +kernel
theorem dX6_addFilm_99 : decode cX6_addFilm 99 = .ok (.getfield 9, 3) := by decide +kernel
theorem dX6_addFilm_102 : decode cX6_addFilm 102 = .ok (.iload 6, 2) := by decide +kernel
theorem dX6_addFilm_104 : decode cX6_addFilm 104 = .ok (.iconst 1, 1) := by decide +kernel
theorem dX6_addFilm_105 : decode cX6_addFilm 105 = .ok (.iadd, 1) := by decide +kernel
theorem dX6_addFilm_106 : decode cX6_addFilm 106 = .ok (.iload_n 2, 1) := by decide +kernel
theorem dX6_addFilm_107 : decode cX6_addFilm 107 = .ok (.iastore, 1) := by decide +kernel
theorem dX6_addFilm_108 : decode cX6_addFilm 108 = .ok (.aload_n 0, 1) := by decide +kernel
theorem dX6_addFilm_109 : decode cX6_addFilm 109 = .ok (.getfield 9, 3) := by decide +kernel
theorem dX6_addFilm_112 : decode cX6_addFilm 112 = .ok (.iload 6, 2) := by decide +kernel
theorem dX6_addFilm_114 : decode cX6_addFilm 114 = .ok (.iconst 2, 1) := by decide +kernel
theorem dX6_addFilm_115 : decode cX6_addFilm 115 = .ok (.iadd, 1) := by decide +kernel
theorem dX6_addFilm_116 : decode cX6_addFilm 116 = .ok (.iload_n 3, 1) := by decide +kernel
theorem dX6_addFilm_117 : decode cX6_addFilm 117 = .ok (.iastore, 1) := by decide +kernel
theorem dX6_addFilm_118 : decode cX6_addFilm 118 = .ok (.aload_n 0, 1) := by decide +kernel
theorem dX6_addFilm_119 : decode cX6_addFilm 119 = .ok (.getfield 9, 3) := by decide +kernel
theorem dX6_addFilm_122 : decode cX6_addFilm 122 = .ok (.iload 6, 2) := by decide +kernel
theorem dX6_addFilm_124 : decode cX6_addFilm 124 = .ok (.iconst 3, 1) := by decide +kernel
theorem dX6_addFilm_125 : decode cX6_addFilm 125 = .ok (.iadd, 1) := by decide +kernel
theorem dX6_addFilm_126 : decode cX6_addFilm 126 = .ok (.iload 4, 2) := by decide +kernel
theorem dX6_addFilm_128 : decode cX6_addFilm 128 = .ok (.iastore, 1) := by decide +kernel
theorem dX6_addFilm_129 : decode cX6_addFilm 129 = .ok (.aload_n 0, 1) := by decide +kernel
theorem dX6_addFilm_130 : decode cX6_addFilm 130 = .ok (.getfield 9, 3) := by decide +kernel
theorem dX6_addFilm_133 : decode cX6_addFilm 133 = .ok (.iload 6, 2) := by decide +kernel
theorem dX6_addFilm_135 : decode cX6_addFilm 135 = .ok (.iconst 4, 1) := by decide +kernel
theorem dX6_addFilm_136 : decode cX6_addFilm 136 = .ok (.iadd, 1) := by decide +kernel
theorem dX6_addFilm_137 : decode cX6_addFilm 137 = .ok (.iload 5, 2) := by decide +kernel
theorem dX6_addFilm_139 : decode cX6_addFilm 139 = .ok (.iastore, 1) := by decide +kernel
theorem dX6_addFilm_140 : decode cX6_addFilm 140 = .ok (.aload_n 0, 1) := by decide +kernel
theorem dX6_addFilm_141 : decode cX6_addFilm 141 = .ok (.getfield 9, 3) := by decide +kernel
theorem dX6_addFilm_144 : decode cX6_addFilm 144 = .ok (.iload 6, 2) := by decide +kernel
theorem dX6_addFilm_146 : decode cX6_addFilm 146 = .ok (.iconst 5, 1) := by decide +kernel
theorem dX6_addFilm_147 : decode cX6_addFilm 147 = .ok (.iadd, 1) := by decide +kernel
theorem dX6_addFilm_148 : decode cX6_addFilm 148 = .ok (.bipush 60, 2) := by decide +kernel
theorem dX6_addFilm_150 : decode cX6_addFilm 150 = .ok (.iastore, 1) := by decide +kernel
theorem dX6_addFilm_151 : decode cX6_addFilm 151 = .ok (.aload_n 0, 1) := by decide +kernel
theorem dX6_addFilm_152 : decode cX6_addFilm 152 = .ok (.getfield 9, 3) := by decide +kernel
theorem dX6_addFilm_155 : decode cX6_addFilm 155 = .ok (.iload 6, 2) := by decide +kernel
theorem dX6_addFilm_157 : decode cX6_addFilm 157 = .ok (.bipush 6, 2) := by decide +kernel
theorem dX6_addFilm_159 : decode cX6_addFilm 159 = .ok (.iadd, 1) := by decide +kernel
theorem dX6_addFilm_160 : decode cX6_addFilm 160 = .ok (.bipush 10, 2) := by decide +kernel
theorem dX6_addFilm_162 : decode cX6_addFilm 162 = .ok (.iastore, 1) := by decide +kernel
theorem dX6_addFilm_163 : decode cX6_addFilm 163 = .ok (.aload_n 0, 1) := by decide +kernel
theorem dX6_addFilm_164 : decode cX6_addFilm 164 = .ok (.getfield 9, 3) := by decide +kernel
theorem dX6_addFilm_167 : decode cX6_addFilm 167 = .ok (.iload 6, 2) := by decide +kernel
theorem dX6_addFilm_169 : decode cX6_addFilm 169 = .ok (.bipush 7, 2) := by decide +kernel
theorem dX6_addFilm_171 : decode cX6_addFilm 171 = .ok (.iadd, 1) := by decide +kernel
theorem dX6_addFilm_172 : decode cX6_addFilm 172 = .ok (.bipush 20, 2) := by decide +kernel
theorem dX6_addFilm_174 : decode cX6_addFilm 174 = .ok (.iastore, 1) := by decide +kernel
theorem dX6_addFilm_175 : decode cX6_addFilm 175 = .ok (.aload_n 0, 1) := by decide +kernel
theorem dX6_addFilm_176 : decode cX6_addFilm 176 = .ok (.getfield 9, 3) := by decide +kernel
theorem dX6_addFilm_179 : decode cX6_addFilm 179 = .ok (.iconst 2, 1) := by decide +kernel
theorem dX6_addFilm_180 : decode cX6_addFilm 180 = .ok (.dup2, 1) := by decide +kernel
theorem dX6_addFilm_181 : decode cX6_addFilm 181 = .ok (.iaload, 1) := by decide +kernel
theorem dX6_addFilm_182 : decode cX6_addFilm 182 = .ok (.iconst 1, 1) := by decide +kernel
theorem dX6_addFilm_183 : decode cX6_addFilm 183 = .ok (.iadd, 1) := by decide +kernel
theorem dX6_addFilm_184 : decode cX6_addFilm 184 = .ok (.iastore, 1) := by decide +kernel
theorem dX6_addFilm_185 : decode cX6_addFilm 185 = .ok (.aload_n 0, 1) := by decide +kernel
theorem dX6_addFilm_186 : decode cX6_addFilm 186 = .ok (.aload_n 0, 1) := by decide +kernel
theorem dX6_addFilm_187 : decode cX6_addFilm 187 = .ok (.getfield 9, 3) := by decide +kernel
theorem dX6_addFilm_190 : decode cX6_addFilm 190 = .ok (.iconst 2, 1) := by decide +kernel
theorem dX6_addFilm_191 : decode cX6_addFilm 191 = .ok (.iaload, 1) := by decide +kernel
theorem dX6_addFilm_192 : decode cX6_addFilm 192 = .ok (.iconst 1, 1) := by decide +kernel
theorem dX6_addFilm_193 : decode cX6_addFilm 193 = .ok (.isub, 1) := by decide +kernel
theorem dX6_addFilm_194 : decode cX6_addFilm 194 = .ok (.invokevirtual 71, 3) := by decide +kernel
theorem dX6_addFilm_197 : decode cX6_addFilm 197 = .ok (.ireturn, 1) := by decide +kernel
theorem dX6_setShares_0 : decode cX6_setShares 0 = .ok (.aload_n 0, 1) := by decide +kernel
theorem dX6_setShares_1 : decode cX6_setShares 1 = .ok (.iload_n 1, 1) := by decide +kernel
theorem dX6_setShares_2 : decode cX6_setShares 2 = .ok (.invokevirtual 78, 3) := by decide +kernel
theorem dX6_setShares_5 : decode cX6_setShares 5 = .ok (.ifCond .ne 9, 3) := by decide +kernel
theorem dX6_setShares_8 : decode cX6_setShares 8 = .ok (.aload_n 0, 1) := by decide +kernel
theorem dX6_setShares_9 : decode cX6_setShares 9 = .ok (.iconst 1, 1) := by decide +kernel
theorem dX6_setShares_10 : decode cX6_setShares 10 = .ok (.invokevirtual 45, 3) := by decide +kernel
theorem dX6_setShares_13 : decode cX6_setShares 13 = .ok (.ireturn, 1) := by decide +kernel
theorem dX6_setShares_14 : decode cX6_setShares 14 = .ok (.iload_n 2, 1) := by decide +kernel
theorem dX6_setShares_15 : decode cX6_setShares 15 = .ok (.iconst 0, 1) := by decide +kernel
theorem dX6_setShares_16 : decode cX6_setShares 16 = .ok (.bipush 100, 2) := by decide +kernel
theorem dX6_setShares_18 : decode cX6_setShares 18 = .ok (.invokestatic 64, 3) := by decide +kernel
theorem dX6_setShares_21 : decode cX6_setShares 21 = .ok (.ifCond .eq 23, 3) := by decide +kernel
theorem dX6_setShares_24 : decode cX6_setShares 24 = .ok (.iload_n 3, 1) := by decide +kernel
theorem dX6_setShares_25 : decode cX6_setShares 25 = .ok (.iconst 0, 1) := by decide +kernel
theorem dX6_setShares_26 : decode cX6_setShares 26 = .ok (.bipush 50, 2) := by decide +kernel
theorem dX6_setShares_28 : decode cX6_setShares 28 = .ok (.invokestatic 64, 3) := by decide +kernel
theorem dX6_setShares_31 : decode cX6_setShares 31 = .ok (.ifCond .eq 13, 3) := by decide +kernel
theorem dX6_setShares_34 : decode cX6_setShares 34 = .ok (.iload 4, 2) := by decide +kernel
theorem dX6_setShares_36 : decode cX6_setShares 36 = .ok (.iconst 0, 1) := by decide +kernel
theorem dX6_setShares_37 : decode cX6_setShares 37 = .ok (.iload_n 2, 1) := by decide +kernel
theorem dX6_setShares_38 : decode cX6_setShares 38 = .ok (.invokestatic 64, 3) := by decide +kernel
theorem dX6_setShares_41 : decode cX6_setShares 41 = .ok (.ifCond .ne 9, 3) := by decide +kernel
theorem dX6_setShares_44 : decode cX6_setShares 44 = .ok (.aload_n 0, 1) := by decide +kernel
theorem dX6_setShares_45 : decode cX6_setShares 45 = .ok (.iconst 2, 1) := by decide +kernel
theorem dX6_setShares_46 : decode cX6_setShares 46 = .ok (.invokevirtual 45, 3) := by decide +kernel
theorem dX6_setShares_49 : decode cX6_setShares 49 = .ok (.ireturn, 1) := by decide +kernel
theorem dX6_setShares_50 : decode cX6_setShares 50 = .ok (.aload_n 0, 1) := by decide +kernel
theorem dX6_setShares_51 : decode cX6_setShares 51 = .ok (.invokevirtual 68, 3) := by decide +kernel
theorem dX6_setShares_54 : decode cX6_setShares 54 = .ok (.aload_n 0, 1) := by decide +kernel
theorem dX6_setShares_55 : decode cX6_setShares 55 = .ok (.iload_n 1, 1) := by decide +kernel
theorem dX6_setShares_56 : decode cX6_setShares 56 = .ok (.iconst 5, 1) := by decide +kernel
theorem dX6_setShares_57 : decode cX6_setShares 57 = .ok (.invokevirtual 81, 3) := by decide +kernel
theorem dX6_setShares_60 : decode cX6_setShares 60 = .ok (.istore 5, 2) := by decide +kernel
theorem dX6_setShares_62 : decode cX6_setShares 62 = .ok (.aload_n 0, 1) := by decide +kernel
theorem dX6_setShares_63 : decode cX6_setShares 63 = .ok (.getfield 9, 3) := by decide +kernel
theorem dX6_setShares_66 : decode cX6_setShares 66 = .ok (.bipush 54, 2) := by decide +kernel
theorem dX6_setShares_68 : decode cX6_setShares 68 = .ok (.bipush 8, 2) := by decide +kernel
theorem dX6_setShares_70 : decode cX6_setShares 70 = .ok (.iload_n 1, 1) := by decide +kernel
theorem dX6_setShares_71 : decode cX6_setShares 71 = .ok (.imul, 1) := by decide +kernel
theorem dX6_setShares_72 : decode cX6_setShares 72 = .ok (.iadd, 1) := by decide +kernel
theorem dX6_setShares_73 : decode cX6_setShares 73 = .ok (.iconst 5, 1) := by decide +kernel
theorem dX6_setShares_74 : decode cX6_setShares 74 = .ok (.iadd, 1) := by decide +kernel
theorem dX6_setShares_75 : decode cX6_setShares 75 = .ok (.iload_n 2, 1) := by decide +kernel
theorem dX6_setShares_76 : decode cX6_setShares 76 = .ok (.iastore, 1) := by decide +kernel
theorem dX6_setShares_77 : decode cX6_setShares 77 = .ok (.aload_n 0, 1) := by decide +kernel
theorem dX6_setShares_78 : decode cX6_setShares 78 = .ok (.getfield 9, 3) := by decide +kernel
theorem dX6_setShares_81 : decode cX6_setShares 81 = .ok (.bipush 54, 2) := by decide +kernel
theorem dX6_setShares_83 : decode cX6_setShares 83 = .ok (.bipush 8, 2) := by decide +kernel
theorem dX6_setShares_85 : decode cX6_setShares 85 = .ok (.iload_n 1, 1) := by decide +kernel
theorem dX6_setShares_86 : decode cX6_setShares 86 = .ok (.imul, 1) := by decide +kernel
theorem dX6_setShares_87 : decode cX6_setShares 87 = .ok (.iadd, 1) := by decide +kernel
theorem dX6_setShares_88 : decode cX6_setShares 88 = .ok (.bipush 6, 2) := by decide +kernel
theorem dX6_setShares_90 : decode cX6_setShares 90 = .ok (.iadd, 1) := by decide +kernel
theorem dX6_setShares_91 : decode cX6_setShares 91 = .ok (.iload_n 3, 1) := by decide +kernel
theorem dX6_setShares_92 : decode cX6_setShares 92 = .ok (.iastore, 1) := by decide +kernel
theorem dX6_setShares_93 : decode cX6_setShares 93 = .ok (.aload_n 0, 1) := by decide +kernel
theorem dX6_setShares_94 : decode cX6_setShares 94 = .ok (.getfield 9, 3) := by decide +kernel
theorem dX6_setShares_97 : decode cX6_setShares 97 = .ok (.bipush 54, 2) := by decide +kernel
theorem dX6_setShares_99 : decode cX6_setShares 99 = .ok (.bipush 8, 2) := by decide +kernel
theorem dX6_setShares_101 : decode cX6_setShares 101 = .ok (.iload_n 1, 1) := by decide +kernel
theorem dX6_setShares_102 : decode cX6_setShares 102 = .ok (.imul, 1) := by decide +kernel
theorem dX6_setShares_103 : decode cX6_setShares 103 = .ok (.iadd, 1) := by decide +kernel
theorem dX6_setShares_104 : decode cX6_setShares 104 = .ok (.bipush 7, 2) := by decide +kernel
theorem dX6_setShares_106 : decode cX6_setShares 106 = .ok (.iadd, 1) := by decide +kernel
theorem dX6_setShares_107 : decode cX6_setShares 107 = .ok (.iload 4, 2) := by decide +kernel
theorem dX6_setShares_109 : decode cX6_setShares 109 = .ok (.iastore, 1) := by decide +kernel
theorem dX6_setShares_110 : decode cX6_setShares 110 = .ok (.aload_n 0, 1) := by decide +kernel
theorem dX6_setShares_111 : decode cX6_setShares 111 = .ok (.iload 5, 2) := by decide +kernel
theorem dX6_setShares_113 : decode cX6_setShares 113 = .ok (.invokevirtual 71, 3) := by decide +kernel
theorem dX6_setShares_116 : decode cX6_setShares 116 = .ok (.ireturn, 1) := by decide +kernel
theorem dX6_addTrailer_0 : decode cX6_addTrailer 0 = .ok (.aload_n 0, 1) := by decide +kernel
theorem dX6_addTrailer_1 : decode cX6_addTrailer 1 = .ok (.iload_n 1, 1) := by decide +kernel
theorem dX6_addTrailer_2 : decode cX6_addTrailer 2 = .ok (.invokevirtual 78, 3) := by decide +kernel
theorem dX6_addTrailer_5 : decode cX6_addTrailer 5 = .ok (.ifCond .ne 9, 3) := by decide +kernel
theorem dX6_addTrailer_8 : decode cX6_addTrailer 8 = .ok (.aload_n 0, 1) := by decide +kernel
theorem dX6_addTrailer_9 : decode cX6_addTrailer 9 = .ok (.iconst 1, 1) := by decide +kernel
theorem dX6_addTrailer_10 : decode cX6_addTrailer 10 = .ok (.invokevirtual 45, 3) := by decide +kernel
theorem dX6_addTrailer_13 : decode cX6_addTrailer 13 = .ok (.ireturn, 1) := by decide +kernel
theorem dX6_addTrailer_14 : decode cX6_addTrailer 14 = .ok (.iload_n 2, 1) := by decide +kernel
theorem dX6_addTrailer_15 : decode cX6_addTrailer 15 = .ok (.iconst 1, 1) := by decide +kernel
theorem dX6_addTrailer_16 : decode cX6_addTrailer 16 = .ok (.bipush 6, 2) := by decide +kernel
theorem dX6_addTrailer_18 : decode cX6_addTrailer 18 = .ok (.invokestatic 64, 3) := by decide +kernel
theorem dX6_addTrailer_21 : decode cX6_addTrailer 21 = .ok (.ifCond .eq 23, 3) := by decide +kernel
theorem dX6_addTrailer_24 : decode cX6_addTrailer 24 = .ok (.iload_n 3, 1) := by decide +kernel
theorem dX6_addTrailer_25 : decode cX6_addTrailer 25 = .ok (.iconst 0, 1) := by decide +kernel
theorem dX6_addTrailer_26 : decode cX6_addTrailer 26 = .ok (.iconst 3, 1) := by decide +kernel
theorem dX6_addTrailer_27 : decode cX6_addTrailer 27 = .ok (.invokestatic 64, 3) := by decide +kernel
theorem dX6_addTrailer_30 : decode cX6_addTrailer 30 = .ok (.ifCond .eq 14, 3) := by decide +kernel
theorem dX6_addTrailer_33 : decode cX6_addTrailer 33 = .ok (.iload 4, 2) := by decide +kernel
theorem dX6_addTrailer_35 : decode cX6_addTrailer 35 = .ok (.iconst 1, 1) := by decide +kernel
theorem dX6_addTrailer_36 : decode cX6_addTrailer 36 = .ok (.bipush 63, 2) := by decide +kernel
theorem dX6_addTrailer_38 : decode cX6_addTrailer 38 = .ok (.invokestatic 64, 3) := by decide +kernel
theorem dX6_addTrailer_41 : decode cX6_addTrailer 41 = .ok (.ifCond .ne 9, 3) := by decide +kernel
theorem dX6_addTrailer_44 : decode cX6_addTrailer 44 = .ok (.aload_n 0, 1) := by decide +kernel
theorem dX6_addTrailer_45 : decode cX6_addTrailer 45 = .ok (.iconst 2, 1) := by decide +kernel
theorem dX6_addTrailer_46 : decode cX6_addTrailer 46 = .ok (.invokevirtual 45, 3) := by decide +kernel
theorem dX6_addTrailer_49 : decode cX6_addTrailer 49 = .ok (.ireturn, 1) := by decide +kernel
theorem dX6_addTrailer_50 : decode cX6_addTrailer 50 = .ok (.aload_n 0, 1) := by decide +kernel
theorem dX6_addTrailer_51 : decode cX6_addTrailer 51 = .ok (.getfield 9, 3) := by decide +kernel
theorem dX6_addTrailer_54 : decode cX6_addTrailer 54 = .ok (.iconst 3, 1) := by decide +kernel
theorem dX6_addTrailer_55 : decode cX6_addTrailer 55 = .ok (.iaload, 1) := by decide +kernel
theorem dX6_addTrailer_56 : decode cX6_addTrailer 56 = .ok (.bipush 10, 2) := by decide +kernel
theorem dX6_addTrailer_58 : decode cX6_addTrailer 58 = .ok (.if_icmp .ne 9, 3) := by decide +kernel
theorem dX6_addTrailer_61 : decode cX6_addTrailer 61 = .ok (.aload_n 0, 1) := by decide +kernel
theorem dX6_addTrailer_62 : decode cX6_addTrailer 62 = .ok (.iconst 3, 1) := by decide +kernel
theorem dX6_addTrailer_63 : decode cX6_addTrailer 63 = .ok (.invokevirtual 45, 3) := by decide +kernel
theorem dX6_addTrailer_66 : decode cX6_addTrailer 66 = .ok (.ireturn, 1) := by decide +kernel
theorem dX6_addTrailer_67 : decode cX6_addTrailer 67 = .ok (.aload_n 0, 1) := by decide +kernel
theorem dX6_addTrailer_68 : decode cX6_addTrailer 68 = .ok (.invokevirtual 68, 3) := by decide +kernel
theorem dX6_addTrailer_71 : decode cX6_addTrailer 71 = .ok (.bipush 118, 2) := by decide +kernel
theorem dX6_addTrailer_73 : decode cX6_addTrailer 73 = .ok (.iconst 4, 1) := by decide +kernel
theorem dX6_addTrailer_74 : decode cX6_addTrailer 74 = .ok (.aload_n 0, 1) := by decide +kernel
theorem dX6_addTrailer_75 : decode cX6_addTrailer 75 = .ok (.getfield 9, 3) := by decide +kernel
theorem dX6_addTrailer_78 : decode cX6_addTrailer 78 = .ok (.iconst 3, 1) := by decide +kernel
theorem dX6_addTrailer_79 : decode cX6_addTrailer 79 = .ok (.iaload, 1) := by decide +kernel
theorem dX6_addTrailer_80 : decode cX6_addTrailer 80 = .ok (.imul, 1) := by decide +kernel
theorem dX6_addTrailer_81 : decode cX6_addTrailer 81 = .ok (.iadd, 1) := by decide +kernel
theorem dX6_addTrailer_82 : decode cX6_addTrailer 82 = .ok (.istore 5, 2) := by decide +kernel
theorem dX6_addTrailer_84 : decode cX6_addTrailer 84 = .ok (.aload_n 0, 1) := by decide +kernel
theorem dX6_addTrailer_85 : decode cX6_addTrailer 85 = .ok (.getfield 9, 3) := by decide +kernel
theorem dX6_addTrailer_88 : decode cX6_addTrailer 88 = .ok (.iload 5, 2) := by decide +kernel
theorem dX6_addTrailer_90 : decode cX6_addTrailer 90 = .ok (.iload_n 1, 1) := by decide +kernel
theorem dX6_addTrailer_91 : decode cX6_addTrailer 91 = .ok (.iastore, 1) := by decide +kernel
theorem dX6_addTrailer_92 : decode cX6_addTrailer 92 = .ok (.aload_n 0, 1) := by decide +kernel
theorem dX6_addTrailer_93 : decode cX6_addTrailer 93 = .ok (.getfield 9, 3) := by decide +kernel
theorem dX6_addTrailer_96 : decode cX6_addTrailer 96 = .ok (.iload 5, 2) := by decide +kernel
theorem dX6_addTrailer_98 : decode cX6_addTrailer 98 = .ok (.iconst 1, 1) := by decide +kernel
theorem dX6_addTrailer_99 : decode cX6_addTrailer 99 = .ok (.iadd, 1) := by decide +kernel
theorem dX6_addTrailer_100 : decode cX6_addTrailer 100 = .ok (.iload_n 2, 1) := by decide +kernel
theorem dX6_addTrailer_101 : decode cX6_addTrailer 101 = .ok (.iastore, 1) := by decide +kernel
theorem dX6_addTrailer_102 : decode cX6_addTrailer 102 = .ok (.aload_n 0, 1) := by decide +kernel
theorem dX6_addTrailer_103 : decode cX6_addTrailer 103 = .ok (.getfield 9, 3) := by decide +kernel
theorem dX6_addTrailer_106 : decode cX6_addTrailer 106 = .ok (.iload 5, 2) := by decide +kernel
theorem dX6_addTrailer_108 : decode cX6_addTrailer 108 = .ok (.iconst 2, 1) := by decide +kernel
theorem dX6_addTrailer_109 : decode cX6_addTrailer 109 = .ok (.iadd, 1) := by decide +kernel
theorem dX6_addTrailer_110 : decode cX6_addTrailer 110 = .ok (.iload_n 3, 1) := by decide +kernel
theorem dX6_addTrailer_111 : decode cX6_addTrailer 111 = .ok (.iastore, 1) := by decide +kernel
theorem dX6_addTrailer_112 : decode cX6_addTrailer 112 = .ok (.aload_n 0, 1) := by decide +kernel
theorem dX6_addTrailer_113 : decode cX6_addTrailer 113 = .ok (.getfield 9, 3) := by decide +kernel
theorem dX6_addTrailer_116 : decode cX6_addTrailer 116 = .ok (.iload 5, 2) := by decide +kernel
theorem dX6_addTrailer_118 : decode cX6_addTrailer 118 = .ok (.iconst 3, 1) := by decide +kernel
theorem dX6_addTrailer_119 : decode cX6_addTrailer 119 = .ok (.iadd, 1) := by decide +kernel
theorem dX6_addTrailer_120 : decode cX6_addTrailer 120 = .ok (.iload 4, 2) := by decide +kernel
theorem dX6_addTrailer_122 : decode cX6_addTrailer 122 = .ok (.iastore, 1) := by decide +kernel
theorem dX6_addTrailer_123 : decode cX6_addTrailer 123 = .ok (.aload_n 0, 1) := by decide +kernel
theorem dX6_addTrailer_124 : decode cX6_addTrailer 124 = .ok (.getfield 9, 3) := by decide +kernel
theorem dX6_addTrailer_127 : decode cX6_addTrailer 127 = .ok (.iconst 3, 1) := by decide +kernel
theorem dX6_addTrailer_128 : decode cX6_addTrailer 128 = .ok (.dup2, 1) := by decide +kernel
theorem dX6_addTrailer_129 : decode cX6_addTrailer 129 = .ok (.iaload, 1) := by decide +kernel
theorem dX6_addTrailer_130 : decode cX6_addTrailer 130 = .ok (.iconst 1, 1) := by decide +kernel
theorem dX6_addTrailer_131 : decode cX6_addTrailer 131 = .ok (.iadd, 1) := by decide +kernel
theorem dX6_addTrailer_132 : decode cX6_addTrailer 132 = .ok (.iastore, 1) := by decide +kernel
theorem dX6_addTrailer_133 : decode cX6_addTrailer 133 = .ok (.aload_n 0, 1) := by decide +kernel
theorem dX6_addTrailer_134 : decode cX6_addTrailer 134 = .ok (.aload_n 0, 1) := by decide +kernel
theorem dX6_addTrailer_135 : decode cX6_addTrailer 135 = .ok (.getfield 9, 3) := by decide +kernel
theorem dX6_addTrailer_138 : decode cX6_addTrailer 138 = .ok (.iconst 3, 1) := by decide +kernel
theorem dX6_addTrailer_139 : decode cX6_addTrailer 139 = .ok (.iaload, 1) := by decide +kernel
theorem dX6_addTrailer_140 : decode cX6_addTrailer 140 = .ok (.iconst 1, 1) := by decide +kernel
theorem dX6_addTrailer_141 : decode cX6_addTrailer 141 = .ok (.isub, 1) := by decide +kernel
theorem dX6_addTrailer_142 : decode cX6_addTrailer 142 = .ok (.invokevirtual 71, 3) := by decide +kernel
theorem dX6_addTrailer_145 : decode cX6_addTrailer 145 = .ok (.ireturn, 1) := by decide +kernel
theorem dX6_isValue_0 : decode cX6_isValue 0 = .ok (.iload_n 0, 1) := by decide +kernel
theorem dX6_isValue_1 : decode cX6_isValue 1 = .ok (.tableswitch 74 0 4 #[35, 43, 50, 58, 66], 35) := by decide +kernel
theorem dX6_isValue_36 : decode cX6_isValue 36 = .ok (.iload_n 1, 1) := by decide +kernel
theorem dX6_isValue_37 : decode cX6_isValue 37 = .ok (.iconst 0, 1) := by decide +kernel
theorem dX6_isValue_38 : decode cX6_isValue 38 = .ok (.bipush 30, 2) := by decide +kernel
theorem dX6_isValue_40 : decode cX6_isValue 40 = .ok (.invokestatic 64, 3) := by decide +kernel
theorem dX6_isValue_43 : decode cX6_isValue 43 = .ok (.ireturn, 1) := by decide +kernel
theorem dX6_isValue_44 : decode cX6_isValue 44 = .ok (.iload_n 1, 1) := by decide +kernel
theorem dX6_isValue_45 : decode cX6_isValue 45 = .ok (.iconst 1, 1) := by decide +kernel
theorem dX6_isValue_46 : decode cX6_isValue 46 = .ok (.iconst 3, 1) := by decide +kernel
theorem dX6_isValue_47 : decode cX6_isValue 47 = .ok (.invokestatic 64, 3) := by decide +kernel
theorem dX6_isValue_50 : decode cX6_isValue 50 = .ok (.ireturn, 1) := by decide +kernel
theorem dX6_isValue_51 : decode cX6_isValue 51 = .ok (.iload_n 1, 1) := by decide +kernel
theorem dX6_isValue_52 : decode cX6_isValue 52 = .ok (.iconst 0, 1) := by decide +kernel
theorem dX6_isValue_53 : decode cX6_isValue 53 = .ok (.bipush 60, 2) := by decide +kernel
theorem dX6_isValue_55 : decode cX6_isValue 55 = .ok (.invokestatic 64, 3) := by decide +kernel
theorem dX6_isValue_58 : decode cX6_isValue 58 = .ok (.ireturn, 1) := by decide +kernel
theorem dX6_isValue_59 : decode cX6_isValue 59 = .ok (.iload_n 1, 1) := by decide +kernel
theorem dX6_isValue_60 : decode cX6_isValue 60 = .ok (.iconst 0, 1) := by decide +kernel
theorem dX6_isValue_61 : decode cX6_isValue 61 = .ok (.bipush 20, 2) := by decide +kernel
theorem dX6_isValue_63 : decode cX6_isValue 63 = .ok (.invokestatic 64, 3) := by decide +kernel
theorem dX6_isValue_66 : decode cX6_isValue 66 = .ok (.ireturn, 1) := by decide +kernel
theorem dX6_isValue_67 : decode cX6_isValue 67 = .ok (.iload_n 1, 1) := by decide +kernel
theorem dX6_isValue_68 : decode cX6_isValue 68 = .ok (.iconst 0, 1) := by decide +kernel
theorem dX6_isValue_69 : decode cX6_isValue 69 = .ok (.bipush 120, 2) := by decide +kernel
theorem dX6_isValue_71 : decode cX6_isValue 71 = .ok (.invokestatic 64, 3) := by decide +kernel
theorem dX6_isValue_74 : decode cX6_isValue 74 = .ok (.ireturn, 1) := by decide +kernel
theorem dX6_isValue_75 : decode cX6_isValue 75 = .ok (.iload_n 1, 1) := by decide +kernel
theorem dX6_isValue_76 : decode cX6_isValue 76 = .ok (.iconst 1, 1) := by decide +kernel
theorem dX6_isValue_77 : decode cX6_isValue 77 = .ok (.bipush 99, 2) := by decide +kernel
theorem dX6_isValue_79 : decode cX6_isValue 79 = .ok (.invokestatic 64, 3) := by decide +kernel
theorem dX6_isValue_82 : decode cX6_isValue 82 = .ok (.ireturn, 1) := by decide +kernel
theorem dX6_set_0 : decode cX6_set 0 = .ok (.iload_n 1, 1) := by decide +kernel
theorem dX6_set_1 : decode cX6_set 1 = .ok (.iconst 0, 1) := by decide +kernel
theorem dX6_set_2 : decode cX6_set 2 = .ok (.iconst 5, 1) := by decide +kernel
theorem dX6_set_3 : decode cX6_set 3 = .ok (.invokestatic 64, 3) := by decide +kernel
theorem dX6_set_6 : decode cX6_set 6 = .ok (.ifCond .ne 9, 3) := by decide +kernel
theorem dX6_set_9 : decode cX6_set 9 = .ok (.aload_n 0, 1) := by decide +kernel
theorem dX6_set_10 : decode cX6_set 10 = .ok (.iconst 1, 1) := by decide +kernel
theorem dX6_set_11 : decode cX6_set 11 = .ok (.invokevirtual 45, 3) := by decide +kernel
theorem dX6_set_14 : decode cX6_set 14 = .ok (.ireturn, 1) := by decide +kernel
theorem dX6_set_15 : decode cX6_set 15 = .ok (.iload_n 1, 1) := by decide +kernel
theorem dX6_set_16 : decode cX6_set 16 = .ok (.iload_n 2, 1) := by decide +kernel
theorem dX6_set_17 : decode cX6_set 17 = .ok (.invokestatic 85, 3) := by decide +kernel
theorem dX6_set_20 : decode cX6_set 20 = .ok (.ifCond .ne 9, 3) := by decide +kernel
theorem dX6_set_23 : decode cX6_set 23 = .ok (.aload_n 0, 1) := by decide +kernel
theorem dX6_set_24 : decode cX6_set 24 = .ok (.iconst 2, 1) := by decide +kernel
theorem dX6_set_25 : decode cX6_set 25 = .ok (.invokevirtual 45, 3) := by decide +kernel
theorem dX6_set_28 : decode cX6_set 28 = .ok (.ireturn, 1) := by decide +kernel
theorem dX6_set_29 : decode cX6_set 29 = .ok (.aload_n 0, 1) := by decide +kernel
theorem dX6_set_30 : decode cX6_set 30 = .ok (.invokevirtual 68, 3) := by decide +kernel
theorem dX6_set_33 : decode cX6_set 33 = .ok (.aload_n 0, 1) := by decide +kernel
theorem dX6_set_34 : decode cX6_set 34 = .ok (.getfield 9, 3) := by decide +kernel
theorem dX6_set_37 : decode cX6_set 37 = .ok (.bipush 8, 2) := by decide +kernel
theorem dX6_set_39 : decode cX6_set 39 = .ok (.iload_n 1, 1) := by decide +kernel
theorem dX6_set_40 : decode cX6_set 40 = .ok (.iadd, 1) := by decide +kernel
theorem dX6_set_41 : decode cX6_set 41 = .ok (.iaload, 1) := by decide +kernel
theorem dX6_set_42 : decode cX6_set 42 = .ok (.istore_n 3, 1) := by decide +kernel
theorem dX6_set_43 : decode cX6_set 43 = .ok (.aload_n 0, 1) := by decide +kernel
theorem dX6_set_44 : decode cX6_set 44 = .ok (.getfield 9, 3) := by decide +kernel
theorem dX6_set_47 : decode cX6_set 47 = .ok (.bipush 8, 2) := by decide +kernel
theorem dX6_set_49 : decode cX6_set 49 = .ok (.iload_n 1, 1) := by decide +kernel
theorem dX6_set_50 : decode cX6_set 50 = .ok (.iadd, 1) := by decide +kernel
theorem dX6_set_51 : decode cX6_set 51 = .ok (.iload_n 2, 1) := by decide +kernel
theorem dX6_set_52 : decode cX6_set 52 = .ok (.iastore, 1) := by decide +kernel
theorem dX6_set_53 : decode cX6_set 53 = .ok (.aload_n 0, 1) := by decide +kernel
theorem dX6_set_54 : decode cX6_set 54 = .ok (.iload_n 3, 1) := by decide +kernel
theorem dX6_set_55 : decode cX6_set 55 = .ok (.invokevirtual 71, 3) := by decide +kernel
theorem dX6_set_58 : decode cX6_set 58 = .ok (.ireturn, 1) := by decide +kernel
theorem dX6_setLimit_0 : decode cX6_setLimit 0 = .ok (.iload_n 1, 1) := by decide +kernel
theorem dX6_setLimit_1 : decode cX6_setLimit 1 = .ok (.iconst 0, 1) := by decide +kernel
theorem dX6_setLimit_2 : decode cX6_setLimit 2 = .ok (.bipush 15, 2) := by decide +kernel
theorem dX6_setLimit_4 : decode cX6_setLimit 4 = .ok (.invokestatic 64, 3) := by decide +kernel
theorem dX6_setLimit_7 : decode cX6_setLimit 7 = .ok (.ifCond .ne 9, 3) := by decide +kernel
theorem dX6_setLimit_10 : decode cX6_setLimit 10 = .ok (.aload_n 0, 1) := by decide +kernel
theorem dX6_setLimit_11 : decode cX6_setLimit 11 = .ok (.iconst 1, 1) := by decide +kernel
theorem dX6_setLimit_12 : decode cX6_setLimit 12 = .ok (.invokevirtual 45, 3) := by decide +kernel
theorem dX6_setLimit_15 : decode cX6_setLimit 15 = .ok (.ireturn, 1) := by decide +kernel
theorem dX6_setLimit_16 : decode cX6_setLimit 16 = .ok (.iload_n 2, 1) := by decide +kernel
theorem dX6_setLimit_17 : decode cX6_setLimit 17 = .ok (.iconst 0, 1) := by decide +kernel
theorem dX6_setLimit_18 : decode cX6_setLimit 18 = .ok (.iconst 3, 1) := by decide +kernel
theorem dX6_setLimit_19 : decode cX6_setLimit 19 = .ok (.invokestatic 64, 3) := by decide +kernel
theorem dX6_setLimit_22 : decode cX6_setLimit 22 = .ok (.ifCond .ne 9, 3) := by decide +kernel
theorem dX6_setLimit_25 : decode cX6_setLimit 25 = .ok (.aload_n 0, 1) := by decide +kernel
theorem dX6_setLimit_26 : decode cX6_setLimit 26 = .ok (.iconst 2, 1) := by decide +kernel
theorem dX6_setLimit_27 : decode cX6_setLimit 27 = .ok (.invokevirtual 45, 3) := by decide +kernel
theorem dX6_setLimit_30 : decode cX6_setLimit 30 = .ok (.ireturn, 1) := by decide +kernel
theorem dX6_setLimit_31 : decode cX6_setLimit 31 = .ok (.aload_n 0, 1) := by decide +kernel
theorem dX6_setLimit_32 : decode cX6_setLimit 32 = .ok (.invokevirtual 68, 3) := by decide +kernel
theorem dX6_setLimit_35 : decode cX6_setLimit 35 = .ok (.aload_n 0, 1) := by decide +kernel
theorem dX6_setLimit_36 : decode cX6_setLimit 36 = .ok (.getfield 9, 3) := by decide +kernel
theorem dX6_setLimit_39 : decode cX6_setLimit 39 = .ok (.bipush 14, 2) := by decide +kernel
theorem dX6_setLimit_41 : decode cX6_setLimit 41 = .ok (.iload_n 1, 1) := by decide +kernel
theorem dX6_setLimit_42 : decode cX6_setLimit 42 = .ok (.iadd, 1) := by decide +kernel
theorem dX6_setLimit_43 : decode cX6_setLimit 43 = .ok (.iaload, 1) := by decide +kernel
theorem dX6_setLimit_44 : decode cX6_setLimit 44 = .ok (.istore_n 3, 1) := by decide +kernel
theorem dX6_setLimit_45 : decode cX6_setLimit 45 = .ok (.aload_n 0, 1) := by decide +kernel
theorem dX6_setLimit_46 : decode cX6_setLimit 46 = .ok (.getfield 9, 3) := by decide +kernel
theorem dX6_setLimit_49 : decode cX6_setLimit 49 = .ok (.bipush 14, 2) := by decide +kernel
theorem dX6_setLimit_51 : decode cX6_setLimit 51 = .ok (.iload_n 1, 1) := by decide +kernel
theorem dX6_setLimit_52 : decode cX6_setLimit 52 = .ok (.iadd, 1) := by decide +kernel
theorem dX6_setLimit_53 : decode cX6_setLimit 53 = .ok (.iload_n 2, 1) := by decide +kernel
theorem dX6_setLimit_54 : decode cX6_setLimit 54 = .ok (.iastore, 1) := by decide +kernel
theorem dX6_setLimit_55 : decode cX6_setLimit 55 = .ok (.aload_n 0, 1) := by decide +kernel
theorem dX6_setLimit_56 : decode cX6_setLimit 56 = .ok (.iload_n 3, 1) := by decide +kernel
theorem dX6_setLimit_57 : decode cX6_setLimit 57 = .ok (.invokevirtual 71, 3) := by decide +kernel
theorem dX6_setLimit_60 : decode cX6_setLimit 60 = .ok (.ireturn, 1) := by decide +kernel
theorem dX6_setting_0 : decode cX6_setting 0 = .ok (.iload_n 1, 1) := by decide +kernel
theorem dX6_setting_1 : decode cX6_setting 1 = .ok (.iconst 0, 1) := by decide +kernel
theorem dX6_setting_2 : decode cX6_setting 2 = .ok (.iconst 5, 1) := by decide +kernel
theorem dX6_setting_3 : decode cX6_setting 3 = .ok (.invokestatic 64, 3) := by decide +kernel
theorem dX6_setting_6 : decode cX6_setting 6 = .ok (.ifCond .eq 19, 3) := by decide +kernel
theorem dX6_setting_9 : decode cX6_setting 9 = .ok (.aload_n 0, 1) := by decide +kernel
theorem dX6_setting_10 : decode cX6_setting 10 = .ok (.aload_n 0, 1) := by decide +kernel
theorem dX6_setting_11 : decode cX6_setting 11 = .ok (.getfield 9, 3) := by decide +kernel
theorem dX6_setting_14 : decode cX6_setting 14 = .ok (.bipush 8, 2) := by decide +kernel
theorem dX6_setting_16 : decode cX6_setting 16 = .ok (.iload_n 1, 1) := by decide +kernel
theorem dX6_setting_17 : decode cX6_setting 17 = .ok (.iadd, 1) := by decide +kernel
theorem dX6_setting_18 : decode cX6_setting 18 = .ok (.iaload, 1) := by decide +kernel
theorem dX6_setting_19 : decode cX6_setting 19 = .ok (.invokevirtual 71, 3) := by decide +kernel
theorem dX6_setting_22 : decode cX6_setting 22 = .ok (.goto 38, 3) := by decide +kernel
theorem dX6_setting_25 : decode cX6_setting 25 = .ok (.iload_n 1, 1) := by decide +kernel
theorem dX6_setting_26 : decode cX6_setting 26 = .ok (.bipush 10, 2) := by decide +kernel
theorem dX6_setting_28 : decode cX6_setting 28 = .ok (.bipush 25, 2) := by decide +kernel
theorem dX6_setting_30 : decode cX6_setting 30 = .ok (.invokestatic 64, 3) := by decide +kernel
theorem dX6_setting_33 : decode cX6_setting 33 = .ok (.ifCond .eq 22, 3) := by decide +kernel
theorem dX6_setting_36 : decode cX6_setting 36 = .ok (.aload_n 0, 1) := by decide +kernel
theorem dX6_setting_37 : decode cX6_setting 37 = .ok (.aload_n 0, 1) := by decide +kernel
theorem dX6_setting_38 : decode cX6_setting 38 = .ok (.getfield 9, 3) := by decide +kernel
theorem dX6_setting_41 : decode cX6_setting 41 = .ok (.bipush 14, 2) := by decide +kernel
theorem dX6_setting_43 : decode cX6_setting 43 = .ok (.iload_n 1, 1) := by decide +kernel
theorem dX6_setting_44 : decode cX6_setting 44 = .ok (.iadd, 1) := by decide +kernel
theorem dX6_setting_45 : decode cX6_setting 45 = .ok (.bipush 10, 2) := by decide +kernel
theorem dX6_setting_47 : decode cX6_setting 47 = .ok (.isub, 1) := by decide +kernel
theorem dX6_setting_48 : decode cX6_setting 48 = .ok (.iaload, 1) := by decide +kernel
theorem dX6_setting_49 : decode cX6_setting 49 = .ok (.invokevirtual 71, 3) := by decide +kernel
theorem dX6_setting_52 : decode cX6_setting 52 = .ok (.goto 8, 3) := by decide +kernel
theorem dX6_setting_55 : decode cX6_setting 55 = .ok (.aload_n 0, 1) := by decide +kernel
theorem dX6_setting_56 : decode cX6_setting 56 = .ok (.iconst 1, 1) := by decide +kernel
theorem dX6_setting_57 : decode cX6_setting 57 = .ok (.invokevirtual 45, 3) := by decide +kernel
theorem dX6_setting_60 : decode cX6_setting 60 = .ok (.ireturn, 1) := by decide +kernel
theorem dX6_minutesOf_0 : decode cX6_minutesOf 0 = .ok (.aload_n 0, 1) := by decide +kernel
theorem dX6_minutesOf_1 : decode cX6_minutesOf 1 = .ok (.iload_n 1, 1) := by decide +kernel
theorem dX6_minutesOf_2 : decode cX6_minutesOf 2 = .ok (.iconst 5, 1) := by decide +kernel
theorem dX6_minutesOf_3 : decode cX6_minutesOf 3 = .ok (.invokevirtual 89, 3) := by decide +kernel
theorem dX6_minutesOf_6 : decode cX6_minutesOf 6 = .ok (.aload_n 0, 1) := by decide +kernel
theorem dX6_minutesOf_7 : decode cX6_minutesOf 7 = .ok (.aload_n 0, 1) := by decide +kernel
theorem dX6_minutesOf_8 : decode cX6_minutesOf 8 = .ok (.iload_n 1, 1) := by decide +kernel
theorem dX6_minutesOf_9 : decode cX6_minutesOf 9 = .ok (.iconst 1, 1) := by decide +kernel
theorem dX6_minutesOf_10 : decode cX6_minutesOf 10 = .ok (.invokevirtual 89, 3) := by decide +kernel
theorem dX6_minutesOf_13 : decode cX6_minutesOf 13 = .ok (.iconst 0, 1) := by decide +kernel
theorem dX6_minutesOf_14 : decode cX6_minutesOf 14 = .ok (.invokevirtual 81, 3) := by decide +kernel
theorem dX6_minutesOf_17 : decode cX6_minutesOf 17 = .ok (.iadd, 1) := by decide +kernel
theorem dX6_minutesOf_18 : decode cX6_minutesOf 18 = .ok (.ireturn, 1) := by decide +kernel
theorem dX6_endOf_0 : decode cX6_endOf 0 = .ok (.aload_n 0, 1) := by decide +kernel
theorem dX6_endOf_1 : decode cX6_endOf 1 = .ok (.iload_n 1, 1) := by decide +kernel
theorem dX6_endOf_2 : decode cX6_endOf 2 = .ok (.iconst 3, 1) := by decide +kernel
theorem dX6_endOf_3 : decode cX6_endOf 3 = .ok (.invokevirtual 89, 3) := by decide +kernel
theorem dX6_endOf_6 : decode cX6_endOf 6 = .ok (.aload_n 0, 1) := by decide +kernel
theorem dX6_endOf_7 : decode cX6_endOf 7 = .ok (.iload_n 1, 1) := by decide +kernel
theorem dX6_endOf_8 : decode cX6_endOf 8 = .ok (.invokevirtual 92, 3) := by decide +kernel
theorem dX6_endOf_11 : decode cX6_endOf 11 = .ok (.iadd, 1) := by decide +kernel
theorem dX6_endOf_12 : decode cX6_endOf 12 = .ok (.ireturn, 1) := by decide +kernel
theorem dX6_cleanOf_0 : decode cX6_cleanOf 0 = .ok (.aload_n 0, 1) := by decide +kernel
theorem dX6_cleanOf_1 : decode cX6_cleanOf 1 = .ok (.aload_n 0, 1) := by decide +kernel
theorem dX6_cleanOf_2 : decode cX6_cleanOf 2 = .ok (.iload_n 1, 1) := by decide +kernel
theorem dX6_cleanOf_3 : decode cX6_cleanOf 3 = .ok (.iconst 0, 1) := by decide +kernel
theorem dX6_cleanOf_4 : decode cX6_cleanOf 4 = .ok (.invokevirtual 89, 3) := by decide +kernel
theorem dX6_cleanOf_7 : decode cX6_cleanOf 7 = .ok (.iconst 1, 1) := by decide +kernel
theorem dX6_cleanOf_8 : decode cX6_cleanOf 8 = .ok (.invokevirtual 95, 3) := by decide +kernel
theorem dX6_cleanOf_11 : decode cX6_cleanOf 11 = .ok (.ireturn, 1) := by decide +kernel
theorem dX6_stands_0 : decode cX6_stands 0 = .ok (.aload_n 0, 1) := by decide +kernel
theorem dX6_stands_1 : decode cX6_stands 1 = .ok (.iload_n 1, 1) := by decide +kernel
theorem dX6_stands_2 : decode cX6_stands 2 = .ok (.bipush 8, 2) := by decide +kernel
theorem dX6_stands_4 : decode cX6_stands 4 = .ok (.invokevirtual 89, 3) := by decide +kernel
theorem dX6_stands_7 : decode cX6_stands 7 = .ok (.ifCond .ne 7, 3) := by decide +kernel
theorem dX6_stands_10 : decode cX6_stands 10 = .ok (.iconst 1, 1) := by decide +kernel
theorem dX6_stands_11 : decode cX6_stands 11 = .ok (.goto 4, 3) := by decide +kernel
theorem dX6_stands_14 : decode cX6_stands 14 = .ok (.iconst 0, 1) := by decide +kernel
theorem dX6_stands_15 : decode cX6_stands 15 = .ok (.ireturn, 1) := by decide +kernel
theorem dX6_isOver_0 : decode cX6_isOver 0 = .ok (.aload_n 0, 1) := by decide +kernel
theorem dX6_isOver_1 : decode cX6_isOver 1 = .ok (.iload_n 1, 1) := by decide +kernel
theorem dX6_isOver_2 : decode cX6_isOver 2 = .ok (.iconst 2, 1) := by decide +kernel
theorem dX6_isOver_3 : decode cX6_isOver 3 = .ok (.invokevirtual 89, 3) := by decide +kernel
theorem dX6_isOver_6 : decode cX6_isOver 6 = .ok (.aload_n 0, 1) := by decide +kernel
theorem dX6_isOver_7 : decode cX6_isOver 7 = .ok (.getfield 9, 3) := by decide +kernel
theorem dX6_isOver_10 : decode cX6_isOver 10 = .ok (.iconst 0, 1) := by decide +kernel
theorem dX6_isOver_11 : decode cX6_isOver 11 = .ok (.iaload, 1) := by decide +kernel
theorem dX6_isOver_12 : decode cX6_isOver 12 = .ok (.if_icmp .ge 7, 3) := by decide +kernel
theorem dX6_isOver_15 : decode cX6_isOver 15 = .ok (.iconst 1, 1) := by decide +kernel
theorem dX6_isOver_16 : decode cX6_isOver 16 = .ok (.goto 4, 3) := by decide +kernel
theorem dX6_isOver_19 : decode cX6_isOver 19 = .ok (.iconst 0, 1) := by decide +kernel
theorem dX6_isOver_20 : decode cX6_isOver 20 = .ok (.ireturn, 1) := by decide +kernel
theorem dX6_shareOn_0 : decode cX6_shareOn 0 = .ok (.aload_n 0, 1) := by decide +kernel
theorem dX6_shareOn_1 : decode cX6_shareOn 1 = .ok (.iload_n 1, 1) := by decide +kernel
theorem dX6_shareOn_2 : decode cX6_shareOn 2 = .ok (.iconst 5, 1) := by decide +kernel
theorem dX6_shareOn_3 : decode cX6_shareOn 3 = .ok (.invokevirtual 81, 3) := by decide +kernel
theorem dX6_shareOn_6 : decode cX6_shareOn 6 = .ok (.aload_n 0, 1) := by decide +kernel
theorem dX6_shareOn_7 : decode cX6_shareOn 7 = .ok (.iload_n 1, 1) := by decide +kernel
theorem dX6_shareOn_8 : decode cX6_shareOn 8 = .ok (.bipush 6, 2) := by decide +kernel
theorem dX6_shareOn_10 : decode cX6_shareOn 10 = .ok (.invokevirtual 81, 3) := by decide +kernel
theorem dX6_shareOn_13 : decode cX6_shareOn 13 = .ok (.iload_n 2, 1) := by decide +kernel
theorem dX6_shareOn_14 : decode cX6_shareOn 14 = .ok (.aload_n 0, 1) := by decide +kernel
theorem dX6_shareOn_15 : decode cX6_shareOn 15 = .ok (.iload_n 1, 1) := by decide +kernel
theorem dX6_shareOn_16 : decode cX6_shareOn 16 = .ok (.iconst 4, 1) := by decide +kernel
theorem dX6_shareOn_17 : decode cX6_shareOn 17 = .ok (.invokevirtual 81, 3) := by decide +kernel
theorem dX6_shareOn_20 : decode cX6_shareOn 20 = .ok (.isub, 1) := by decide +kernel
theorem dX6_shareOn_21 : decode cX6_shareOn 21 = .ok (.bipush 7, 2) := by decide +kernel
theorem dX6_shareOn_23 : decode cX6_shareOn 23 = .ok (.idiv, 1) := by decide +kernel
theorem dX6_shareOn_24 : decode cX6_shareOn 24 = .ok (.imul, 1) := by decide +kernel
theorem dX6_shareOn_25 : decode cX6_shareOn 25 = .ok (.isub, 1) := by decide +kernel
theorem dX6_shareOn_26 : decode cX6_shareOn 26 = .ok (.istore_n 3, 1) := by decide +kernel
theorem dX6_shareOn_27 : decode cX6_shareOn 27 = .ok (.iload_n 3, 1) := by decide +kernel
theorem dX6_shareOn_28 : decode cX6_shareOn 28 = .ok (.aload_n 0, 1) := by decide +kernel
theorem dX6_shareOn_29 : decode cX6_shareOn 29 = .ok (.iload_n 1, 1) := by decide +kernel
theorem dX6_shareOn_30 : decode cX6_shareOn 30 = .ok (.bipush 7, 2) := by decide +kernel
theorem dX6_shareOn_32 : decode cX6_shareOn 32 = .ok (.invokevirtual 81, 3) := by decide +kernel
theorem dX6_shareOn_35 : decode cX6_shareOn 35 = .ok (.if_icmp .ge 13, 3) := by decide +kernel
theorem dX6_shareOn_38 : decode cX6_shareOn 38 = .ok (.aload_n 0, 1) := by decide +kernel
theorem dX6_shareOn_39 : decode cX6_shareOn 39 = .ok (.iload_n 1, 1) := by decide +kernel
theorem dX6_shareOn_40 : decode cX6_shareOn 40 = .ok (.bipush 7, 2) := by decide +kernel
theorem dX6_shareOn_42 : decode cX6_shareOn 42 = .ok (.invokevirtual 81, 3) := by decide +kernel
theorem dX6_shareOn_45 : decode cX6_shareOn 45 = .ok (.goto 4, 3) := by decide +kernel
theorem dX6_shareOn_48 : decode cX6_shareOn 48 = .ok (.iload_n 3, 1) := by decide +kernel
theorem dX6_shareOn_49 : decode cX6_shareOn 49 = .ok (.ireturn, 1) := by decide +kernel
theorem dX6_receiptsOf_0 : decode cX6_receiptsOf 0 = .ok (.aload_n 0, 1) := by decide +kernel
theorem dX6_receiptsOf_1 : decode cX6_receiptsOf 1 = .ok (.iload_n 1, 1) := by decide +kernel
theorem dX6_receiptsOf_2 : decode cX6_receiptsOf 2 = .ok (.bipush 7, 2) := by decide +kernel
theorem dX6_receiptsOf_4 : decode cX6_receiptsOf 4 = .ok (.invokevirtual 89, 3) := by decide +kernel
theorem dX6_receiptsOf_7 : decode cX6_receiptsOf 7 = .ok (.aload_n 0, 1) := by decide +kernel
theorem dX6_receiptsOf_8 : decode cX6_receiptsOf 8 = .ok (.iload_n 1, 1) := by decide +kernel
theorem dX6_receiptsOf_9 : decode cX6_receiptsOf 9 = .ok (.bipush 6, 2) := by decide +kernel
theorem dX6_receiptsOf_11 : decode cX6_receiptsOf 11 = .ok (.invokevirtual 89, 3) := by decide +kernel
theorem dX6_receiptsOf_14 : decode cX6_receiptsOf 14 = .ok (.imul, 1) := by decide +kernel
theorem dX6_receiptsOf_15 : decode cX6_receiptsOf 15 = .ok (.ireturn, 1) := by decide +kernel
theorem dX6_partOf_0 : decode cX6_partOf 0 = .ok (.aload_n 0, 1) := by decide +kernel
theorem dX6_partOf_1 : decode cX6_partOf 1 = .ok (.iload_n 1, 1) := by decide +kernel
theorem dX6_partOf_2 : decode cX6_partOf 2 = .ok (.invokevirtual 98, 3) := by decide +kernel
theorem dX6_partOf_5 : decode cX6_partOf 5 = .ok (.aload_n 0, 1) := by decide +kernel
theorem dX6_partOf_6 : decode cX6_partOf 6 = .ok (.aload_n 0, 1) := by decide +kernel
theorem dX6_partOf_7 : decode cX6_partOf 7 = .ok (.iload_n 1, 1) := by decide +kernel
theorem dX6_partOf_8 : decode cX6_partOf 8 = .ok (.iconst 1, 1) := by decide +kernel
theorem dX6_partOf_9 : decode cX6_partOf 9 = .ok (.invokevirtual 89, 3) := by decide +kernel
theorem dX6_partOf_12 : decode cX6_partOf 12 = .ok (.aload_n 0, 1) := by decide +kernel
theorem dX6_partOf_13 : decode cX6_partOf 13 = .ok (.iload_n 1, 1) := by decide +kernel
theorem dX6_partOf_14 : decode cX6_partOf 14 = .ok (.iconst 2, 1) := by decide +kernel
theorem dX6_partOf_15 : decode cX6_partOf 15 = .ok (.invokevirtual 89, 3) := by decide +kernel
theorem dX6_partOf_18 : decode cX6_partOf 18 = .ok (.invokevirtual 101, 3) := by decide +kernel
theorem dX6_partOf_21 : decode cX6_partOf 21 = .ok (.imul, 1) := by decide +kernel
theorem dX6_partOf_22 : decode cX6_partOf 22 = .ok (.bipush 100, 2) := by decide +kernel
theorem dX6_partOf_24 : decode cX6_partOf 24 = .ok (.idiv, 1) := by decide +kernel
theorem dX6_partOf_25 : decode cX6_partOf 25 = .ok (.ireturn, 1) := by decide +kernel
theorem dX6_hall_0 : decode cX6_hall 0 = .ok (.aload_n 0, 1) := by decide +kernel
theorem dX6_hall_1 : decode cX6_hall 1 = .ok (.iload_n 1, 1) := by decide +kernel
theorem dX6_hall_2 : decode cX6_hall 2 = .ok (.invokevirtual 104, 3) := by decide +kernel
theorem dX6_hall_5 : decode cX6_hall 5 = .ok (.ifCond .ne 9, 3) := by decide +kernel
theorem dX6_hall_8 : decode cX6_hall 8 = .ok (.aload_n 0, 1) := by decide +kernel
theorem dX6_hall_9 : decode cX6_hall 9 = .ok (.iconst 1, 1) := by decide +kernel
theorem dX6_hall_10 : decode cX6_hall 10 = .ok (.invokevirtual 45, 3) := by decide +kernel
theorem dX6_hall_13 : decode cX6_hall 13 = .ok (.ireturn, 1) := by decide +kernel
theorem dX6_hall_14 : decode cX6_hall 14 = .ok (.iload_n 2, 1) := by decide +kernel
theorem dX6_hall_15 : decode cX6_hall 15 = .ok (.iconst 0, 1) := by decide +kernel
theorem dX6_hall_16 : decode cX6_hall 16 = .ok (.bipush 6, 2) := by decide +kernel
theorem dX6_hall_18 : decode cX6_hall 18 = .ok (.invokestatic 64, 3) := by decide +kernel
theorem dX6_hall_21 : decode cX6_hall 21 = .ok (.ifCond .ne 9, 3) := by decide +kernel
theorem dX6_hall_24 : decode cX6_hall 24 = .ok (.aload_n 0, 1) := by decide +kernel
theorem dX6_hall_25 : decode cX6_hall 25 = .ok (.iconst 2, 1) := by decide +kernel
theorem dX6_hall_26 : decode cX6_hall 26 = .ok (.invokevirtual 45, 3) := by decide +kernel
theorem dX6_hall_29 : decode cX6_hall 29 = .ok (.ireturn, 1) := by decide +kernel
theorem dX6_hall_30 : decode cX6_hall 30 = .ok (.iload_n 2, 1) := by decide +kernel
theorem dX6_hall_31 : decode cX6_hall 31 = .ok (.iconst 4, 1) := by decide +kernel
theorem dX6_hall_32 : decode cX6_hall 32 = .ok (.if_icmp .ge 14, 3) := by decide +kernel
theorem dX6_hall_35 : decode cX6_hall 35 = .ok (.aload_n 0, 1) := by decide +kernel
theorem dX6_hall_36 : decode cX6_hall 36 = .ok (.aload_n 0, 1) := by decide +kernel
theorem dX6_hall_37 : decode cX6_hall 37 = .ok (.iload_n 1, 1) := by decide +kernel
theorem dX6_hall_38 : decode cX6_hall 38 = .ok (.iload_n 2, 1) := by decide +kernel
theorem dX6_hall_39 : decode cX6_hall 39 = .ok (.invokevirtual 95, 3) := by decide +kernel
theorem dX6_hall_42 : decode cX6_hall 42 = .ok (.invokevirtual 71, 3) := by decide +kernel
theorem dX6_hall_45 : decode cX6_hall 45 = .ok (.ireturn, 1) := by decide +kernel
theorem dX6_hall_46 : decode cX6_hall 46 = .ok (.iconst 0, 1) := by decide +kernel
theorem dX6_hall_47 : decode cX6_hall 47 = .ok (.istore_n 3, 1) := by decide +kernel
theorem dX6_hall_48 : decode cX6_hall 48 = .ok (.iconst 0, 1) := by decide +kernel
theorem dX6_hall_49 : decode cX6_hall 49 = .ok (.istore 4, 2) := by decide +kernel
theorem dX6_hall_51 : decode cX6_hall 51 = .ok (.iload 4, 2) := by decide +kernel
theorem dX6_hall_53 : decode cX6_hall 53 = .ok (.aload_n 0, 1) := by decide +kernel
theorem dX6_hall_54 : decode cX6_hall 54 = .ok (.getfield 9, 3) := by decide +kernel
theorem dX6_hall_57 : decode cX6_hall 57 = .ok (.iconst 4, 1) := by decide +kernel
theorem dX6_hall_58 : decode cX6_hall 58 = .ok (.iaload, 1) := by decide +kernel
theorem dX6_hall_59 : decode cX6_hall 59 = .ok (.if_icmp .ge 63, 3) := by decide +kernel
theorem dX6_hall_62 : decode cX6_hall 62 = .ok (.aload_n 0, 1) := by decide +kernel
theorem dX6_hall_63 : decode cX6_hall 63 = .ok (.iload 4, 2) := by decide +kernel
theorem dX6_hall_65 : decode cX6_hall 65 = .ok (.invokevirtual 107, 3) := by decide +kernel
theorem dX6_hall_68 : decode cX6_hall 68 = .ok (.ifCond .eq 48, 3) := by decide +kernel
theorem dX6_hall_71 : decode cX6_hall 71 = .ok (.aload_n 0, 1) := by decide +kernel
theorem dX6_hall_72 : decode cX6_hall 72 = .ok (.iload 4, 2) := by decide +kernel
theorem dX6_hall_74 : decode cX6_hall 74 = .ok (.iconst 0, 1) := by decide +kernel
theorem dX6_hall_75 : decode cX6_hall 75 = .ok (.invokevirtual 89, 3) := by decide +kernel
theorem dX6_hall_78 : decode cX6_hall 78 = .ok (.iload_n 1, 1) := by decide +kernel
theorem dX6_hall_79 : decode cX6_hall 79 = .ok (.if_icmp .ne 37, 3) := by decide +kernel
theorem dX6_hall_82 : decode cX6_hall 82 = .ok (.iload_n 3, 1) := by decide +kernel
theorem dX6_hall_83 : decode cX6_hall 83 = .ok (.iload_n 2, 1) := by decide +kernel
theorem dX6_hall_84 : decode cX6_hall 84 = .ok (.iconst 4, 1) := by decide +kernel
theorem dX6_hall_85 : decode cX6_hall 85 = .ok (.if_icmp .ne 7, 3) := by decide +kernel
theorem dX6_hall_88 : decode cX6_hall 88 = .ok (.iconst 1, 1) := by decide +kernel
theorem dX6_hall_89 : decode cX6_hall 89 = .ok (.goto 25, 3) := by decide +kernel
theorem dX6_hall_92 : decode cX6_hall 92 = .ok (.iload_n 2, 1) := by decide +kernel
theorem dX6_hall_93 : decode cX6_hall 93 = .ok (.iconst 5, 1) := by decide +kernel
theorem dX6_hall_94 : decode cX6_hall 94 = .ok (.if_icmp .ne 12, 3) := by decide +kernel
theorem dX6_hall_97 : decode cX6_hall 97 = .ok (.aload_n 0, 1) := by decide +kernel
theorem dX6_hall_98 : decode cX6_hall 98 = .ok (.iload 4, 2) := by decide +kernel
theorem dX6_hall_100 : decode cX6_hall 100 = .ok (.invokevirtual 92, 3) := by decide +kernel
theorem dX6_hall_103 : decode cX6_hall 103 = .ok (.goto 11, 3) := by decide +kernel
theorem dX6_hall_106 : decode cX6_hall 106 = .ok (.aload_n 0, 1) := by decide +kernel
theorem dX6_hall_107 : decode cX6_hall 107 = .ok (.iload 4, 2) := by decide +kernel
theorem dX6_hall_109 : decode cX6_hall 109 = .ok (.bipush 7, 2) := by decide +kernel
theorem dX6_hall_111 : decode cX6_hall 111 = .ok (.invokevirtual 89, 3) := by decide +kernel
theorem dX6_hall_114 : decode cX6_hall 114 = .ok (.iadd, 1) := by decide +kernel
theorem dX6_hall_115 : decode cX6_hall 115 = .ok (.istore_n 3, 1) := by decide +kernel
theorem dX6_hall_116 : decode cX6_hall 116 = .ok (.iinc 4 1, 3) := by decide +kernel
theorem dX6_hall_119 : decode cX6_hall 119 = .ok (.goto (-68), 3) := by decide +kernel
theorem dX6_hall_122 : decode cX6_hall 122 = .ok (.aload_n 0, 1) := by decide +kernel
theorem dX6_hall_123 : decode cX6_hall 123 = .ok (.iload_n 3, 1) := by decide +kernel
theorem dX6_hall_124 : decode cX6_hall 124 = .ok (.invokevirtual 71, 3) := by decide +kernel
theorem dX6_hall_127 : decode cX6_hall 127 = .ok (.ireturn, 1) := by decide +kernel
theorem dX6_film_0 : decode cX6_film 0 = .ok (.aload_n 0, 1) := by decide +kernel
theorem dX6_film_1 : decode cX6_film 1 = .ok (.iload_n 1, 1) := by decide +kernel
theorem dX6_film_2 : decode cX6_film 2 = .ok (.invokevirtual 78, 3) := by decide +kernel
theorem dX6_film_5 : decode cX6_film 5 = .ok (.ifCond .ne 9, 3) := by decide +kernel
theorem dX6_film_8 : decode cX6_film 8 = .ok (.aload_n 0, 1) := by decide +kernel
theorem dX6_film_9 : decode cX6_film 9 = .ok (.iconst 1, 1) := by decide +kernel
theorem dX6_film_10 : decode cX6_film 10 = .ok (.invokevirtual 45, 3) := by decide +kernel
theorem dX6_film_13 : decode cX6_film 13 = .ok (.ireturn, 1) := by decide +kernel
theorem dX6_film_14 : decode cX6_film 14 = .ok (.iload_n 2, 1) := by decide +kernel
theorem dX6_film_15 : decode cX6_film 15 = .ok (.iconst 0, 1) := by decide +kernel
theorem dX6_film_16 : decode cX6_film 16 = .ok (.bipush 11, 2) := by decide +kernel
theorem dX6_film_18 : decode cX6_film 18 = .ok (.invokestatic 64, 3) := by decide +kernel
theorem dX6_film_21 : decode cX6_film 21 = .ok (.ifCond .ne 9, 3) := by decide +kernel
theorem dX6_film_24 : decode cX6_film 24 = .ok (.aload_n 0, 1) := by decide +kernel
theorem dX6_film_25 : decode cX6_film 25 = .ok (.iconst 2, 1) := by decide +kernel
theorem dX6_film_26 : decode cX6_film 26 = .ok (.invokevirtual 45, 3) := by decide +kernel
theorem dX6_film_29 : decode cX6_film 29 = .ok (.ireturn, 1) := by decide +kernel
theorem dX6_film_30 : decode cX6_film 30 = .ok (.iload_n 2, 1) := by decide +kernel
theorem dX6_film_31 : decode cX6_film 31 = .ok (.iconst 5, 1) := by decide +kernel
theorem dX6_film_32 : decode cX6_film 32 = .ok (.if_icmp .lt 9, 3) := by decide +kernel
theorem dX6_film_35 : decode cX6_film 35 = .ok (.iload_n 2, 1) := by decide +kernel
theorem dX6_film_36 : decode cX6_film 36 = .ok (.bipush 8, 2) := by decide +kernel
theorem dX6_film_38 : decode cX6_film 38 = .ok (.if_icmp .le 28, 3) := by decide +kernel
theorem dX6_film_41 : decode cX6_film 41 = .ok (.aload_n 0, 1) := by decide +kernel
theorem dX6_film_42 : decode cX6_film 42 = .ok (.aload_n 0, 1) := by decide +kernel
theorem dX6_film_43 : decode cX6_film 43 = .ok (.iload_n 1, 1) := by decide +kernel
theorem dX6_film_44 : decode cX6_film 44 = .ok (.iload_n 2, 1) := by decide +kernel
theorem dX6_film_45 : decode cX6_film 45 = .ok (.iconst 5, 1) := by decide +kernel
theorem dX6_film_46 : decode cX6_film 46 = .ok (.if_icmp .ge 7, 3) := by decide +kernel
theorem dX6_film_49 : decode cX6_film 49 = .ok (.iload_n 2, 1) := by decide +kernel
theorem dX6_film_50 : decode cX6_film 50 = .ok (.goto 9, 3) := by decide +kernel
theorem dX6_film_53 : decode cX6_film 53 = .ok (.iconst 5, 1) := by decide +kernel
theorem dX6_film_54 : decode cX6_film 54 = .ok (.iload_n 2, 1) := by decide +kernel
theorem dX6_film_55 : decode cX6_film 55 = .ok (.iadd, 1) := by decide +kernel
theorem dX6_film_56 : decode cX6_film 56 = .ok (.bipush 9, 2) := by decide +kernel
theorem dX6_film_58 : decode cX6_film 58 = .ok (.isub, 1) := by decide +kernel
theorem dX6_film_59 : decode cX6_film 59 = .ok (.invokevirtual 81, 3) := by decide +kernel
theorem dX6_film_62 : decode cX6_film 62 = .ok (.invokevirtual 71, 3) := by decide +kernel
theorem dX6_film_65 : decode cX6_film 65 = .ok (.ireturn, 1) := by decide +kernel
theorem dX6_film_66 : decode cX6_film 66 = .ok (.iconst 0, 1) := by decide +kernel
theorem dX6_film_67 : decode cX6_film 67 = .ok (.istore_n 3, 1) := by decide +kernel
theorem dX6_film_68 : decode cX6_film 68 = .ok (.iconst 0, 1) := by decide +kernel
theorem dX6_film_69 : decode cX6_film 69 = .ok (.istore 4, 2) := by decide +kernel
theorem dX6_film_71 : decode cX6_film 71 = .ok (.iload 4, 2) := by decide +kernel
theorem dX6_film_73 : decode cX6_film 73 = .ok (.aload_n 0, 1) := by decide +kernel
theorem dX6_film_74 : decode cX6_film 74 = .ok (.getfield 9, 3) := by decide +kernel
theorem dX6_film_77 : decode cX6_film 77 = .ok (.iconst 4, 1) := by decide +kernel
theorem dX6_film_78 : decode cX6_film 78 = .ok (.iaload, 1) := by decide +kernel
theorem dX6_film_79 : decode cX6_film 79 = .ok (.if_icmp .ge 79, 3) := by decide +kernel
theorem dX6_film_82 : decode cX6_film 82 = .ok (.aload_n 0, 1) := by decide +kernel
theorem dX6_film_83 : decode cX6_film 83 = .ok (.iload 4, 2) := by decide +kernel
theorem dX6_film_85 : decode cX6_film 85 = .ok (.invokevirtual 107, 3) := by decide +kernel
theorem dX6_film_88 : decode cX6_film 88 = .ok (.ifCond .eq 64, 3) := by decide +kernel
theorem dX6_film_91 : decode cX6_film 91 = .ok (.aload_n 0, 1) := by decide +kernel
theorem dX6_film_92 : decode cX6_film 92 = .ok (.iload 4, 2) := by decide +kernel
theorem dX6_film_94 : decode cX6_film 94 = .ok (.iconst 1, 1) := by decide +kernel
theorem dX6_film_95 : decode cX6_film 95 = .ok (.invokevirtual 89, 3) := by decide +kernel
theorem dX6_film_98 : decode cX6_film 98 = .ok (.iload_n 1, 1) := by decide +kernel
theorem dX6_film_99 : decode cX6_film 99 = .ok (.if_icmp .ne 53, 3) := by decide +kernel
theorem dX6_film_102 : decode cX6_film 102 = .ok (.iload_n 3, 1) := by decide +kernel
theorem dX6_film_103 : decode cX6_film 103 = .ok (.iload_n 2, 1) := by decide +kernel
theorem dX6_film_104 : decode cX6_film 104 = .ok (.iconst 5, 1) := by decide +kernel
theorem dX6_film_105 : decode cX6_film 105 = .ok (.if_icmp .ne 7, 3) := by decide +kernel
theorem dX6_film_108 : decode cX6_film 108 = .ok (.iconst 1, 1) := by decide +kernel
theorem dX6_film_109 : decode cX6_film 109 = .ok (.goto 41, 3) := by decide +kernel
theorem dX6_film_112 : decode cX6_film 112 = .ok (.iload_n 2, 1) := by decide +kernel
theorem dX6_film_113 : decode cX6_film 113 = .ok (.bipush 6, 2) := by decide +kernel
theorem dX6_film_115 : decode cX6_film 115 = .ok (.if_icmp .ne 14, 3) := by decide +kernel
theorem dX6_film_118 : decode cX6_film 118 = .ok (.aload_n 0, 1) := by decide +kernel
theorem dX6_film_119 : decode cX6_film 119 = .ok (.iload 4, 2) := by decide +kernel
theorem dX6_film_121 : decode cX6_film 121 = .ok (.bipush 7, 2) := by decide +kernel
theorem dX6_film_123 : decode cX6_film 123 = .ok (.invokevirtual 89, 3) := by decide +kernel
theorem dX6_film_126 : decode cX6_film 126 = .ok (.goto 24, 3) := by decide +kernel
theorem dX6_film_129 : decode cX6_film 129 = .ok (.iload_n 2, 1) := by decide +kernel
theorem dX6_film_130 : decode cX6_film 130 = .ok (.bipush 7, 2) := by decide +kernel
theorem dX6_film_132 : decode cX6_film 132 = .ok (.if_icmp .ne 12, 3) := by decide +kernel
theorem dX6_film_135 : decode cX6_film 135 = .ok (.aload_n 0, 1) := by decide +kernel
theorem dX6_film_136 : decode cX6_film 136 = .ok (.iload 4, 2) := by decide +kernel
theorem dX6_film_138 : decode cX6_film 138 = .ok (.invokevirtual 98, 3) := by decide +kernel
theorem dX6_film_141 : decode cX6_film 141 = .ok (.goto 9, 3) := by decide +kernel
theorem dX6_film_144 : decode cX6_film 144 = .ok (.aload_n 0, 1) := by decide +kernel
theorem dX6_film_145 : decode cX6_film 145 = .ok (.iload 4, 2) := by decide +kernel
theorem dX6_film_147 : decode cX6_film 147 = .ok (.invokevirtual 110, 3) := by decide +kernel
theorem dX6_film_150 : decode cX6_film 150 = .ok (.iadd, 1) := by decide +kernel
theorem dX6_film_151 : decode cX6_film 151 = .ok (.istore_n 3, 1) := by decide +kernel
theorem dX6_film_152 : decode cX6_film 152 = .ok (.iinc 4 1, 3) := by decide +kernel
theorem dX6_film_155 : decode cX6_film 155 = .ok (.goto (-84), 3) := by decide +kernel
theorem dX6_film_158 : decode cX6_film 158 = .ok (.aload_n 0, 1) := by decide +kernel
theorem dX6_film_159 : decode cX6_film 159 = .ok (.iload_n 3, 1) := by decide +kernel
theorem dX6_film_160 : decode cX6_film 160 = .ok (.invokevirtual 71, 3) := by decide +kernel
theorem dX6_film_163 : decode cX6_film 163 = .ok (.ireturn, 1) := by decide +kernel
theorem dX6_share_0 : decode cX6_share 0 = .ok (.aload_n 0, 1) := by decide +kernel
theorem dX6_share_1 : decode cX6_share 1 = .ok (.iload_n 1, 1) := by decide +kernel
theorem dX6_share_2 : decode cX6_share 2 = .ok (.invokevirtual 78, 3) := by decide +kernel
theorem dX6_share_5 : decode cX6_share 5 = .ok (.ifCond .ne 9, 3) := by decide +kernel
theorem dX6_share_8 : decode cX6_share 8 = .ok (.aload_n 0, 1) := by decide +kernel
theorem dX6_share_9 : decode cX6_share 9 = .ok (.iconst 1, 1) := by decide +kernel
theorem dX6_share_10 : decode cX6_share 10 = .ok (.invokevirtual 45, 3) := by decide +kernel
theorem dX6_share_13 : decode cX6_share 13 = .ok (.ireturn, 1) := by decide +kernel
theorem dX6_share_14 : decode cX6_share 14 = .ok (.iload_n 2, 1) := by decide +kernel
theorem dX6_share_15 : decode cX6_share 15 = .ok (.invokestatic 74, 3) := by decide +kernel
theorem dX6_share_18 : decode cX6_share 18 = .ok (.ifCond .ne 9, 3) := by decide +kernel
theorem dX6_share_21 : decode cX6_share 21 = .ok (.aload_n 0, 1) := by decide +kernel
theorem dX6_share_22 : decode cX6_share 22 = .ok (.iconst 2, 1) := by decide +kernel
theorem dX6_share_23 : decode cX6_share 23 = .ok (.invokevirtual 45, 3) := by decide +kernel
theorem dX6_share_26 : decode cX6_share 26 = .ok (.ireturn, 1) := by decide +kernel
theorem dX6_share_27 : decode cX6_share 27 = .ok (.iload_n 2, 1) := by decide +kernel
theorem dX6_share_28 : decode cX6_share 28 = .ok (.aload_n 0, 1) := by decide +kernel
theorem dX6_share_29 : decode cX6_share 29 = .ok (.iload_n 1, 1) := by decide +kernel
theorem dX6_share_30 : decode cX6_share 30 = .ok (.iconst 4, 1) := by decide +kernel
theorem dX6_share_31 : decode cX6_share 31 = .ok (.invokevirtual 81, 3) := by decide +kernel
theorem dX6_share_34 : decode cX6_share 34 = .ok (.if_icmp .ge 11, 3) := by decide +kernel
theorem dX6_share_37 : decode cX6_share 37 = .ok (.aload_n 0, 1) := by decide +kernel
theorem dX6_share_38 : decode cX6_share 38 = .ok (.iconst 3, 1) := by decide +kernel
theorem dX6_share_39 : decode cX6_share 39 = .ok (.invokevirtual 45, 3) := by decide +kernel
theorem dX6_share_42 : decode cX6_share 42 = .ok (.goto 13, 3) := by decide +kernel
theorem dX6_share_45 : decode cX6_share 45 = .ok (.aload_n 0, 1) := by decide +kernel
theorem dX6_share_46 : decode cX6_share 46 = .ok (.aload_n 0, 1) := by decide +kernel
theorem dX6_share_47 : decode cX6_share 47 = .ok (.iload_n 1, 1) := by decide +kernel
theorem dX6_share_48 : decode cX6_share 48 = .ok (.iload_n 2, 1) := by decide +kernel
theorem dX6_share_49 : decode cX6_share 49 = .ok (.invokevirtual 101, 3) := by decide +kernel
theorem dX6_share_52 : decode cX6_share 52 = .ok (.invokevirtual 71, 3) := by decide +kernel
theorem dX6_share_55 : decode cX6_share 55 = .ok (.ireturn, 1) := by decide +kernel
theorem dX6_trailer_0 : decode cX6_trailer 0 = .ok (.iload_n 1, 1) := by decide +kernel
theorem dX6_trailer_1 : decode cX6_trailer 1 = .ok (.iconst 0, 1) := by decide +kernel
theorem dX6_trailer_2 : decode cX6_trailer 2 = .ok (.aload_n 0, 1) := by decide +kernel
theorem dX6_trailer_3 : decode cX6_trailer 3 = .ok (.getfield 9, 3) := by decide +kernel
theorem dX6_trailer_6 : decode cX6_trailer 6 = .ok (.iconst 3, 1) := by decide +kernel
theorem dX6_trailer_7 : decode cX6_trailer 7 = .ok (.iaload, 1) := by decide +kernel
theorem dX6_trailer_8 : decode cX6_trailer 8 = .ok (.iconst 1, 1) := by decide +kernel
theorem dX6_trailer_9 : decode cX6_trailer 9 = .ok (.isub, 1) := by decide +kernel
theorem dX6_trailer_10 : decode cX6_trailer 10 = .ok (.invokestatic 64, 3) := by decide +kernel
theorem dX6_trailer_13 : decode cX6_trailer 13 = .ok (.ifCond .ne 9, 3) := by decide +kernel
theorem dX6_trailer_16 : decode cX6_trailer 16 = .ok (.aload_n 0, 1) := by decide +kernel
theorem dX6_trailer_17 : decode cX6_trailer 17 = .ok (.iconst 1, 1) := by decide +kernel
theorem dX6_trailer_18 : decode cX6_trailer 18 = .ok (.invokevirtual 45, 3) := by decide +kernel
theorem dX6_trailer_21 : decode cX6_trailer 21 = .ok (.ireturn, 1) := by decide +kernel
theorem dX6_trailer_22 : decode cX6_trailer 22 = .ok (.iload_n 2, 1) := by decide +kernel
theorem dX6_trailer_23 : decode cX6_trailer 23 = .ok (.iconst 0, 1) := by decide +kernel
theorem dX6_trailer_24 : decode cX6_trailer 24 = .ok (.iconst 3, 1) := by decide +kernel
theorem dX6_trailer_25 : decode cX6_trailer 25 = .ok (.invokestatic 64, 3) := by decide +kernel
theorem dX6_trailer_28 : decode cX6_trailer 28 = .ok (.ifCond .eq 16, 3) := by decide +kernel
theorem dX6_trailer_31 : decode cX6_trailer 31 = .ok (.aload_n 0, 1) := by decide +kernel
theorem dX6_trailer_32 : decode cX6_trailer 32 = .ok (.aload_n 0, 1) := by decide +kernel
theorem dX6_trailer_33 : decode cX6_trailer 33 = .ok (.iload_n 1, 1) := by decide +kernel
theorem dX6_trailer_34 : decode cX6_trailer 34 = .ok (.iload_n 2, 1) := by decide +kernel
theorem dX6_trailer_35 : decode cX6_trailer 35 = .ok (.invokevirtual 113, 3) := by decide +kernel
theorem dX6_trailer_38 : decode cX6_trailer 38 = .ok (.invokevirtual 71, 3) := by decide +kernel
theorem dX6_trailer_41 : decode cX6_trailer 41 = .ok (.goto 8, 3) := by decide +kernel
theorem dX6_trailer_44 : decode cX6_trailer 44 = .ok (.aload_n 0, 1) := by decide +kernel
theorem dX6_trailer_45 : decode cX6_trailer 45 = .ok (.iconst 2, 1) := by decide +kernel
theorem dX6_trailer_46 : decode cX6_trailer 46 = .ok (.invokevirtual 45, 3) := by decide +kernel
theorem dX6_trailer_49 : decode cX6_trailer 49 = .ok (.ireturn, 1) := by decide +kernel
theorem dX6_doesFit_0 : decode cX6_doesFit 0 = .ok (.aload_n 0, 1) := by decide +kernel
theorem dX6_doesFit_1 : decode cX6_doesFit 1 = .ok (.iload_n 1, 1) := by decide +kernel
theorem dX6_doesFit_2 : decode cX6_doesFit 2 = .ok (.iconst 0, 1) := by decide +kernel
theorem dX6_doesFit_3 : decode cX6_doesFit 3 = .ok (.invokevirtual 113, 3) := by decide +kernel
theorem dX6_doesFit_6 : decode cX6_doesFit 6 = .ok (.istore 4, 2) := by decide +kernel
theorem dX6_doesFit_8 : decode cX6_doesFit 8 = .ok (.iload 4, 2) := by decide +kernel
theorem dX6_doesFit_10 : decode cX6_doesFit 10 = .ok (.iload_n 2, 1) := by decide +kernel
theorem dX6_doesFit_11 : decode cX6_doesFit 11 = .ok (.if_icmp .eq 49, 3) := by decide +kernel
theorem dX6_doesFit_14 : decode cX6_doesFit 14 = .ok (.aload_n 0, 1) := by decide +kernel
theorem dX6_doesFit_15 : decode cX6_doesFit 15 = .ok (.iload 4, 2) := by decide +kernel
theorem dX6_doesFit_17 : decode cX6_doesFit 17 = .ok (.iconst 4, 1) := by decide +kernel
theorem dX6_doesFit_18 : decode cX6_doesFit 18 = .ok (.invokevirtual 81, 3) := by decide +kernel
theorem dX6_doesFit_21 : decode cX6_doesFit 21 = .ok (.iload_n 3, 1) := by decide +kernel
theorem dX6_doesFit_22 : decode cX6_doesFit 22 = .ok (.if_icmp .le 38, 3) := by decide +kernel
theorem dX6_doesFit_25 : decode cX6_doesFit 25 = .ok (.aload_n 0, 1) := by decide +kernel
theorem dX6_doesFit_26 : decode cX6_doesFit 26 = .ok (.iload_n 1, 1) := by decide +kernel
theorem dX6_doesFit_27 : decode cX6_doesFit 27 = .ok (.iconst 2, 1) := by decide +kernel
theorem dX6_doesFit_28 : decode cX6_doesFit 28 = .ok (.invokevirtual 113, 3) := by decide +kernel
theorem dX6_doesFit_31 : decode cX6_doesFit 31 = .ok (.aload_n 0, 1) := by decide +kernel
theorem dX6_doesFit_32 : decode cX6_doesFit 32 = .ok (.iload_n 2, 1) := by decide +kernel
theorem dX6_doesFit_33 : decode cX6_doesFit 33 = .ok (.iconst 1, 1) := by decide +kernel
theorem dX6_doesFit_34 : decode cX6_doesFit 34 = .ok (.invokevirtual 81, 3) := by decide +kernel
theorem dX6_doesFit_37 : decode cX6_doesFit 37 = .ok (.if_icmp .gt 23, 3) := by decide +kernel
theorem dX6_doesFit_40 : decode cX6_doesFit 40 = .ok (.aload_n 0, 1) := by decide +kernel
theorem dX6_doesFit_41 : decode cX6_doesFit 41 = .ok (.iload_n 1, 1) := by decide +kernel
theorem dX6_doesFit_42 : decode cX6_doesFit 42 = .ok (.iconst 3, 1) := by decide +kernel
theorem dX6_doesFit_43 : decode cX6_doesFit 43 = .ok (.invokevirtual 113, 3) := by decide +kernel
theorem dX6_doesFit_46 : decode cX6_doesFit 46 = .ok (.aload_n 0, 1) := by decide +kernel
theorem dX6_doesFit_47 : decode cX6_doesFit 47 = .ok (.iload_n 2, 1) := by decide +kernel
theorem dX6_doesFit_48 : decode cX6_doesFit 48 = .ok (.iconst 2, 1) := by decide +kernel
theorem dX6_doesFit_49 : decode cX6_doesFit 49 = .ok (.invokevirtual 81, 3) := by decide +kernel
theorem dX6_doesFit_52 : decode cX6_doesFit 52 = .ok (.iand, 1) := by decide +kernel
theorem dX6_doesFit_53 : decode cX6_doesFit 53 = .ok (.ifCond .eq 7, 3) := by decide +kernel
theorem dX6_doesFit_56 : decode cX6_doesFit 56 = .ok (.iconst 1, 1) := by decide +kernel
theorem dX6_doesFit_57 : decode cX6_doesFit 57 = .ok (.goto 4, 3) := by decide +kernel
theorem dX6_doesFit_60 : decode cX6_doesFit 60 = .ok (.iconst 0, 1) := by decide +kernel
theorem dX6_doesFit_61 : decode cX6_doesFit 61 = .ok (.ireturn, 1) := by decide +kernel
theorem dX6_fits_0 : decode cX6_fits 0 = .ok (.iload_n 1, 1) := by decide +kernel
theorem dX6_fits_1 : decode cX6_fits 1 = .ok (.iconst 0, 1) := by decide +kernel
theorem dX6_fits_2 : decode cX6_fits 2 = .ok (.aload_n 0, 1) := by decide +kernel
theorem dX6_fits_3 : decode cX6_fits 3 = .ok (.getfield 9, 3) := by decide +kernel
theorem dX6_fits_6 : decode cX6_fits 6 = .ok (.iconst 3, 1) := by decide +kernel
theorem dX6_fits_7 : decode cX6_fits 7 = .ok (.iaload, 1) := by decide +kernel
theorem dX6_fits_8 : decode cX6_fits 8 = .ok (.iconst 1, 1) := by decide +kernel
theorem dX6_fits_9 : decode cX6_fits 9 = .ok (.isub, 1) := by decide +kernel
theorem dX6_fits_10 : decode cX6_fits 10 = .ok (.invokestatic 64, 3) := by decide +kernel
theorem dX6_fits_13 : decode cX6_fits 13 = .ok (.ifCond .eq 11, 3) := by decide +kernel
theorem dX6_fits_16 : decode cX6_fits 16 = .ok (.aload_n 0, 1) := by decide +kernel
theorem dX6_fits_17 : decode cX6_fits 17 = .ok (.iload_n 2, 1) := by decide +kernel
theorem dX6_fits_18 : decode cX6_fits 18 = .ok (.invokevirtual 78, 3) := by decide +kernel
theorem dX6_fits_21 : decode cX6_fits 21 = .ok (.ifCond .ne 17, 3) := by decide +kernel
theorem dX6_fits_24 : decode cX6_fits 24 = .ok (.aload_n 0, 1) := by decide +kernel
theorem dX6_fits_25 : decode cX6_fits 25 = .ok (.iconst 1, 1) := by decide +kernel
theorem dX6_fits_26 : decode cX6_fits 26 = .ok (.invokevirtual 45, 3) := by decide +kernel
theorem dX6_fits_29 : decode cX6_fits 29 = .ok (.ifCond .le 7, 3) := by decide +kernel
theorem dX6_fits_32 : decode cX6_fits 32 = .ok (.iconst 1, 1) := by decide +kernel
theorem dX6_fits_33 : decode cX6_fits 33 = .ok (.goto 4, 3) := by decide +kernel
theorem dX6_fits_36 : decode cX6_fits 36 = .ok (.iconst 0, 1) := by decide +kernel
theorem dX6_fits_37 : decode cX6_fits 37 = .ok (.ireturn, 1) := by decide +kernel
theorem dX6_fits_38 : decode cX6_fits 38 = .ok (.iload_n 3, 1) := by decide +kernel
theorem dX6_fits_39 : decode cX6_fits 39 = .ok (.invokestatic 74, 3) := by decide +kernel
theorem dX6_fits_42 : decode cX6_fits 42 = .ok (.ifCond .ne 17, 3) := by decide +kernel
theorem dX6_fits_45 : decode cX6_fits 45 = .ok (.aload_n 0, 1) := by decide +kernel
theorem dX6_fits_46 : decode cX6_fits 46 = .ok (.iconst 2, 1) := by decide +kernel
theorem dX6_fits_47 : decode cX6_fits 47 = .ok (.invokevirtual 45, 3) := by decide +kernel
theorem dX6_fits_50 : decode cX6_fits 50 = .ok (.ifCond .le 7, 3) := by decide +kernel
theorem dX6_fits_53 : decode cX6_fits 53 = .ok (.iconst 1, 1) := by decide +kernel
theorem dX6_fits_54 : decode cX6_fits 54 = .ok (.goto 4, 3) := by decide +kernel
theorem dX6_fits_57 : decode cX6_fits 57 = .ok (.iconst 0, 1) := by decide +kernel
theorem dX6_fits_58 : decode cX6_fits 58 = .ok (.ireturn, 1) := by decide +kernel
theorem dX6_fits_59 : decode cX6_fits 59 = .ok (.aload_n 0, 1) := by decide +kernel
theorem dX6_fits_60 : decode cX6_fits 60 = .ok (.iconst 0, 1) := by decide +kernel
theorem dX6_fits_61 : decode cX6_fits 61 = .ok (.putfield 36, 3) := by decide +kernel
theorem dX6_fits_64 : decode cX6_fits 64 = .ok (.aload_n 0, 1) := by decide +kernel
theorem dX6_fits_65 : decode cX6_fits 65 = .ok (.iload_n 1, 1) := by decide +kernel
theorem dX6_fits_66 : decode cX6_fits 66 = .ok (.iload_n 2, 1) := by decide +kernel
theorem dX6_fits_67 : decode cX6_fits 67 = .ok (.iload_n 3, 1) := by decide +kernel
theorem dX6_fits_68 : decode cX6_fits 68 = .ok (.invokevirtual 116, 3) := by decide +kernel
theorem dX6_fits_71 : decode cX6_fits 71 = .ok (.ireturn, 1) := by decide +kernel
theorem dX6_lengthOf_0 : decode cX6_lengthOf 0 = .ok (.iconst 0, 1) := by decide +kernel
theorem dX6_lengthOf_1 : decode cX6_lengthOf 1 = .ok (.istore_n 2, 1) := by decide +kernel
theorem dX6_lengthOf_2 : decode cX6_lengthOf 2 = .ok (.iconst 0, 1) := by decide +kernel
theorem dX6_lengthOf_3 : decode cX6_lengthOf 3 = .ok (.istore_n 3, 1) := by decide +kernel
theorem dX6_lengthOf_4 : decode cX6_lengthOf 4 = .ok (.iload_n 3, 1) := by decide +kernel
theorem dX6_lengthOf_5 : decode cX6_lengthOf 5 = .ok (.aload_n 0, 1) := by decide +kernel
theorem dX6_lengthOf_6 : decode cX6_lengthOf 6 = .ok (.getfield 9, 3) := by decide +kernel
theorem dX6_lengthOf_9 : decode cX6_lengthOf 9 = .ok (.iconst 3, 1) := by decide +kernel
theorem dX6_lengthOf_10 : decode cX6_lengthOf 10 = .ok (.iaload, 1) := by decide +kernel
theorem dX6_lengthOf_11 : decode cX6_lengthOf 11 = .ok (.if_icmp .ge 31, 3) := by decide +kernel
theorem dX6_lengthOf_14 : decode cX6_lengthOf 14 = .ok (.iload_n 2, 1) := by decide +kernel
theorem dX6_lengthOf_15 : decode cX6_lengthOf 15 = .ok (.iload_n 1, 1) := by decide +kernel
theorem dX6_lengthOf_16 : decode cX6_lengthOf 16 = .ok (.iload_n 3, 1) := by decide +kernel
theorem dX6_lengthOf_17 : decode cX6_lengthOf 17 = .ok (.ishr, 1) := by decide +kernel
theorem dX6_lengthOf_18 : decode cX6_lengthOf 18 = .ok (.iconst 1, 1) := by decide +kernel
theorem dX6_lengthOf_19 : decode cX6_lengthOf 19 = .ok (.iand, 1) := by decide +kernel
theorem dX6_lengthOf_20 : decode cX6_lengthOf 20 = .ok (.iconst 1, 1) := by decide +kernel
theorem dX6_lengthOf_21 : decode cX6_lengthOf 21 = .ok (.if_icmp .ne 12, 3) := by decide +kernel
theorem dX6_lengthOf_24 : decode cX6_lengthOf 24 = .ok (.aload_n 0, 1) := by decide +kernel
theorem dX6_lengthOf_25 : decode cX6_lengthOf 25 = .ok (.iload_n 3, 1) := by decide +kernel
theorem dX6_lengthOf_26 : decode cX6_lengthOf 26 = .ok (.iconst 1, 1) := by decide +kernel
theorem dX6_lengthOf_27 : decode cX6_lengthOf 27 = .ok (.invokevirtual 113, 3) := by decide +kernel
theorem dX6_lengthOf_30 : decode cX6_lengthOf 30 = .ok (.goto 4, 3) := by decide +kernel
theorem dX6_lengthOf_33 : decode cX6_lengthOf 33 = .ok (.iconst 0, 1) := by decide +kernel
theorem dX6_lengthOf_34 : decode cX6_lengthOf 34 = .ok (.iadd, 1) := by decide +kernel
theorem dX6_lengthOf_35 : decode cX6_lengthOf 35 = .ok (.istore_n 2, 1) := by decide +kernel
theorem dX6_lengthOf_36 : decode cX6_lengthOf 36 = .ok (.iinc 3 1, 3) := by decide +kernel
theorem dX6_lengthOf_39 : decode cX6_lengthOf 39 = .ok (.goto (-35), 3) := by decide +kernel
theorem dX6_lengthOf_42 : decode cX6_lengthOf 42 = .ok (.iload_n 2, 1) := by decide +kernel
theorem dX6_lengthOf_43 : decode cX6_lengthOf 43 = .ok (.ireturn, 1) := by decide +kernel
theorem dX6_isBetter_0 : decode cX6_isBetter 0 = .ok (.aload_n 0, 1) := by decide +kernel
theorem dX6_isBetter_1 : decode cX6_isBetter 1 = .ok (.iload_n 1, 1) := by decide +kernel
theorem dX6_isBetter_2 : decode cX6_isBetter 2 = .ok (.invokevirtual 119, 3) := by decide +kernel
theorem dX6_isBetter_5 : decode cX6_isBetter 5 = .ok (.aload_n 0, 1) := by decide +kernel
theorem dX6_isBetter_6 : decode cX6_isBetter 6 = .ok (.iload_n 2, 1) := by decide +kernel
theorem dX6_isBetter_7 : decode cX6_isBetter 7 = .ok (.invokevirtual 119, 3) := by decide +kernel
theorem dX6_isBetter_10 : decode cX6_isBetter 10 = .ok (.if_icmp .eq 22, 3) := by decide +kernel
theorem dX6_isBetter_13 : decode cX6_isBetter 13 = .ok (.aload_n 0, 1) := by decide +kernel
theorem dX6_isBetter_14 : decode cX6_isBetter 14 = .ok (.iload_n 1, 1) := by decide +kernel
theorem dX6_isBetter_15 : decode cX6_isBetter 15 = .ok (.invokevirtual 119, 3) := by decide +kernel
theorem dX6_isBetter_18 : decode cX6_isBetter 18 = .ok (.aload_n 0, 1) := by decide +kernel
theorem dX6_isBetter_19 : decode cX6_isBetter 19 = .ok (.iload_n 2, 1) := by decide +kernel
theorem dX6_isBetter_20 : decode cX6_isBetter 20 = .ok (.invokevirtual 119, 3) := by decide +kernel
theorem dX6_isBetter_23 : decode cX6_isBetter 23 = .ok (.if_icmp .le 7, 3) := by decide +kernel
theorem dX6_isBetter_26 : decode cX6_isBetter 26 = .ok (.iconst 1, 1) := by decide +kernel
theorem dX6_isBetter_27 : decode cX6_isBetter 27 = .ok (.goto 4, 3) := by decide +kernel
theorem dX6_isBetter_30 : decode cX6_isBetter 30 = .ok (.iconst 0, 1) := by decide +kernel
theorem dX6_isBetter_31 : decode cX6_isBetter 31 = .ok (.ireturn, 1) := by decide +kernel
theorem dX6_isBetter_32 : decode cX6_isBetter 32 = .ok (.iload_n 1, 1) := by decide +kernel
theorem dX6_isBetter_33 : decode cX6_isBetter 33 = .ok (.invokestatic 122, 3) := by decide +kernel
theorem dX6_isBetter_36 : decode cX6_isBetter 36 = .ok (.istore_n 3, 1) := by decide +kernel
theorem dX6_isBetter_37 : decode cX6_isBetter 37 = .ok (.iload_n 2, 1) := by decide +kernel
theorem dX6_isBetter_38 : decode cX6_isBetter 38 = .ok (.invokestatic 122, 3) := by decide +kernel
theorem dX6_isBetter_41 : decode cX6_isBetter 41 = .ok (.istore 4, 2) := by decide +kernel
theorem dX6_isBetter_43 : decode cX6_isBetter 43 = .ok (.iload_n 1, 1) := by decide +kernel
theorem dX6_isBetter_44 : decode cX6_isBetter 44 = .ok (.iload_n 2, 1) := by decide +kernel
theorem dX6_isBetter_45 : decode cX6_isBetter 45 = .ok (.ixor, 1) := by decide +kernel
theorem dX6_isBetter_46 : decode cX6_isBetter 46 = .ok (.istore 5, 2) := by decide +kernel
theorem dX6_isBetter_48 : decode cX6_isBetter 48 = .ok (.iload_n 3, 1) := by decide +kernel
theorem dX6_isBetter_49 : decode cX6_isBetter 49 = .ok (.iload 4, 2) := by decide +kernel
theorem dX6_isBetter_51 : decode cX6_isBetter 51 = .ok (.if_icmp .eq 17, 3) := by decide +kernel
theorem dX6_isBetter_54 : decode cX6_isBetter 54 = .ok (.iload_n 3, 1) := by decide +kernel
theorem dX6_isBetter_55 : decode cX6_isBetter 55 = .ok (.iload 4, 2) := by decide +kernel
theorem dX6_isBetter_57 : decode cX6_isBetter 57 = .ok (.if_icmp .ge 7, 3) := by decide +kernel
theorem dX6_isBetter_60 : decode cX6_isBetter 60 = .ok (.iconst 1, 1) := by decide +kernel
theorem dX6_isBetter_61 : decode cX6_isBetter 61 = .ok (.goto 23, 3) := by decide +kernel
theorem dX6_isBetter_64 : decode cX6_isBetter 64 = .ok (.iconst 0, 1) := by decide +kernel
theorem dX6_isBetter_65 : decode cX6_isBetter 65 = .ok (.goto 19, 3) := by decide +kernel
theorem dX6_isBetter_68 : decode cX6_isBetter 68 = .ok (.iload_n 1, 1) := by decide +kernel
theorem dX6_isBetter_69 : decode cX6_isBetter 69 = .ok (.iload 5, 2) := by decide +kernel
theorem dX6_isBetter_71 : decode cX6_isBetter 71 = .ok (.iand, 1) := by decide +kernel
theorem dX6_isBetter_72 : decode cX6_isBetter 72 = .ok (.iload 5, 2) := by decide +kernel
theorem dX6_isBetter_74 : decode cX6_isBetter 74 = .ok (.ineg, 1) := by decide +kernel
theorem dX6_isBetter_75 : decode cX6_isBetter 75 = .ok (.iand, 1) := by decide +kernel
theorem dX6_isBetter_76 : decode cX6_isBetter 76 = .ok (.ifCond .eq 7, 3) := by decide +kernel
theorem dX6_isBetter_79 : decode cX6_isBetter 79 = .ok (.iconst 1, 1) := by decide +kernel
theorem dX6_isBetter_80 : decode cX6_isBetter 80 = .ok (.goto 4, 3) := by decide +kernel
theorem dX6_isBetter_83 : decode cX6_isBetter 83 = .ok (.iconst 0, 1) := by decide +kernel
theorem dX6_isBetter_84 : decode cX6_isBetter 84 = .ok (.ireturn, 1) := by decide +kernel
theorem dX6_bestReel_0 : decode cX6_bestReel 0 = .ok (.iconst 0, 1) := by decide +kernel
theorem dX6_bestReel_1 : decode cX6_bestReel 1 = .ok (.istore_n 3, 1) := by decide +kernel
theorem dX6_bestReel_2 : decode cX6_bestReel 2 = .ok (.iconst 0, 1) := by decide +kernel
theorem dX6_bestReel_3 : decode cX6_bestReel 3 = .ok (.istore 4, 2) := by decide +kernel
theorem dX6_bestReel_5 : decode cX6_bestReel 5 = .ok (.iload 4, 2) := by decide +kernel
theorem dX6_bestReel_7 : decode cX6_bestReel 7 = .ok (.aload_n 0, 1) := by decide +kernel
theorem dX6_bestReel_8 : decode cX6_bestReel 8 = .ok (.getfield 9, 3) := by decide +kernel
theorem dX6_bestReel_11 : decode cX6_bestReel 11 = .ok (.iconst 3, 1) := by decide +kernel
theorem dX6_bestReel_12 : decode cX6_bestReel 12 = .ok (.iaload, 1) := by decide +kernel
theorem dX6_bestReel_13 : decode cX6_bestReel 13 = .ok (.if_icmp .ge 31, 3) := by decide +kernel
theorem dX6_bestReel_16 : decode cX6_bestReel 16 = .ok (.iload_n 3, 1) := by decide +kernel
theorem dX6_bestReel_17 : decode cX6_bestReel 17 = .ok (.aload_n 0, 1) := by decide +kernel
theorem dX6_bestReel_18 : decode cX6_bestReel 18 = .ok (.iload 4, 2) := by decide +kernel
theorem dX6_bestReel_20 : decode cX6_bestReel 20 = .ok (.iload_n 1, 1) := by decide +kernel
theorem dX6_bestReel_21 : decode cX6_bestReel 21 = .ok (.iload_n 2, 1) := by decide +kernel
theorem dX6_bestReel_22 : decode cX6_bestReel 22 = .ok (.invokevirtual 116, 3) := by decide +kernel
theorem dX6_bestReel_25 : decode cX6_bestReel 25 = .ok (.ifCond .eq 10, 3) := by decide +kernel
theorem dX6_bestReel_28 : decode cX6_bestReel 28 = .ok (.iconst 1, 1) := by decide +kernel
theorem dX6_bestReel_29 : decode cX6_bestReel 29 = .ok (.iload 4, 2) := by decide +kernel
theorem dX6_bestReel_31 : decode cX6_bestReel 31 = .ok (.ishl, 1) := by decide +kernel
theorem dX6_bestReel_32 : decode cX6_bestReel 32 = .ok (.goto 4, 3) := by decide +kernel
theorem dX6_bestReel_35 : decode cX6_bestReel 35 = .ok (.iconst 0, 1) := by decide +kernel
theorem dX6_bestReel_36 : decode cX6_bestReel 36 = .ok (.ior, 1) := by decide +kernel
theorem dX6_bestReel_37 : decode cX6_bestReel 37 = .ok (.istore_n 3, 1) := by decide +kernel
theorem dX6_bestReel_38 : decode cX6_bestReel 38 = .ok (.iinc 4 1, 3) := by decide +kernel
theorem dX6_bestReel_41 : decode cX6_bestReel 41 = .ok (.goto (-36), 3) := by decide +kernel
theorem dX6_bestReel_44 : decode cX6_bestReel 44 = .ok (.iconst 0, 1) := by decide +kernel
theorem dX6_bestReel_45 : decode cX6_bestReel 45 = .ok (.istore 4, 2) := by decide +kernel
theorem dX6_bestReel_47 : decode cX6_bestReel 47 = .ok (.iconst 1, 1) := by decide +kernel
theorem dX6_bestReel_48 : decode cX6_bestReel 48 = .ok (.istore 5, 2) := by decide +kernel
theorem dX6_bestReel_50 : decode cX6_bestReel 50 = .ok (.iload 5, 2) := by decide +kernel
theorem dX6_bestReel_52 : decode cX6_bestReel 52 = .ok (.iconst 1, 1) := by decide +kernel
theorem dX6_bestReel_53 : decode cX6_bestReel 53 = .ok (.aload_n 0, 1) := by decide +kernel
theorem dX6_bestReel_54 : decode cX6_bestReel 54 = .ok (.getfield 9, 3) := by decide +kernel
theorem dX6_bestReel_57 : decode cX6_bestReel 57 = .ok (.iconst 3, 1) := by decide +kernel
theorem dX6_bestReel_58 : decode cX6_bestReel 58 = .ok (.iaload, 1) := by decide +kernel
theorem dX6_bestReel_59 : decode cX6_bestReel 59 = .ok (.ishl, 1) := by decide +kernel
theorem dX6_bestReel_60 : decode cX6_bestReel 60 = .ok (.if_icmp .ge 58, 3) := by decide +kernel
theorem dX6_bestReel_63 : decode cX6_bestReel 63 = .ok (.iload 5, 2) := by decide +kernel
theorem dX6_bestReel_65 : decode cX6_bestReel 65 = .ok (.iload_n 3, 1) := by decide +kernel
theorem dX6_bestReel_66 : decode cX6_bestReel 66 = .ok (.iconst (-1), 1) := by decide +kernel
theorem dX6_bestReel_67 : decode cX6_bestReel 67 = .ok (.ixor, 1) := by decide +kernel
theorem dX6_bestReel_68 : decode cX6_bestReel 68 = .ok (.iand, 1) := by decide +kernel
theorem dX6_bestReel_69 : decode cX6_bestReel 69 = .ok (.ifCond .ne 43, 3) := by decide +kernel
theorem dX6_bestReel_72 : decode cX6_bestReel 72 = .ok (.iload 5, 2) := by decide +kernel
theorem dX6_bestReel_74 : decode cX6_bestReel 74 = .ok (.invokestatic 122, 3) := by decide +kernel
theorem dX6_bestReel_77 : decode cX6_bestReel 77 = .ok (.iconst 4, 1) := by decide +kernel
theorem dX6_bestReel_78 : decode cX6_bestReel 78 = .ok (.if_icmp .gt 34, 3) := by decide +kernel
theorem dX6_bestReel_81 : decode cX6_bestReel 81 = .ok (.aload_n 0, 1) := by decide +kernel
theorem dX6_bestReel_82 : decode cX6_bestReel 82 = .ok (.iload 5, 2) := by decide +kernel
theorem dX6_bestReel_84 : decode cX6_bestReel 84 = .ok (.invokevirtual 119, 3) := by decide +kernel
theorem dX6_bestReel_87 : decode cX6_bestReel 87 = .ok (.aload_n 0, 1) := by decide +kernel
theorem dX6_bestReel_88 : decode cX6_bestReel 88 = .ok (.getfield 9, 3) := by decide +kernel
theorem dX6_bestReel_91 : decode cX6_bestReel 91 = .ok (.bipush 11, 2) := by decide +kernel
theorem dX6_bestReel_93 : decode cX6_bestReel 93 = .ok (.iaload, 1) := by decide +kernel
theorem dX6_bestReel_94 : decode cX6_bestReel 94 = .ok (.if_icmp .gt 18, 3) := by decide +kernel
theorem dX6_bestReel_97 : decode cX6_bestReel 97 = .ok (.aload_n 0, 1) := by decide +kernel
theorem dX6_bestReel_98 : decode cX6_bestReel 98 = .ok (.iload 5, 2) := by decide +kernel
theorem dX6_bestReel_100 : decode cX6_bestReel 100 = .ok (.iload 4, 2) := by decide +kernel
theorem dX6_bestReel_102 : decode cX6_bestReel 102 = .ok (.invokevirtual 127, 3) := by decide +kernel
theorem dX6_bestReel_105 : decode cX6_bestReel 105 = .ok (.ifCond .eq 7, 3) := by decide +kernel
theorem dX6_bestReel_108 : decode cX6_bestReel 108 = .ok (.iload 5, 2) := by decide +kernel
theorem dX6_bestReel_110 : decode cX6_bestReel 110 = .ok (.istore 4, 2) := by decide +kernel
theorem dX6_bestReel_112 : decode cX6_bestReel 112 = .ok (.iinc 5 1, 3) := by decide +kernel
theorem dX6_bestReel_115 : decode cX6_bestReel 115 = .ok (.goto (-65), 3) := by decide +kernel
theorem dX6_bestReel_118 : decode cX6_bestReel 118 = .ok (.iload 4, 2) := by decide +kernel
theorem dX6_bestReel_120 : decode cX6_bestReel 120 = .ok (.ireturn, 1) := by decide +kernel
theorem dX6_reel_0 : decode cX6_reel 0 = .ok (.aload_n 0, 1) := by decide +kernel
theorem dX6_reel_1 : decode cX6_reel 1 = .ok (.iload_n 1, 1) := by decide +kernel
theorem dX6_reel_2 : decode cX6_reel 2 = .ok (.invokevirtual 78, 3) := by decide +kernel
theorem dX6_reel_5 : decode cX6_reel 5 = .ok (.ifCond .ne 9, 3) := by decide +kernel
theorem dX6_reel_8 : decode cX6_reel 8 = .ok (.aload_n 0, 1) := by decide +kernel
theorem dX6_reel_9 : decode cX6_reel 9 = .ok (.iconst 1, 1) := by decide +kernel
theorem dX6_reel_10 : decode cX6_reel 10 = .ok (.invokevirtual 45, 3) := by decide +kernel
theorem dX6_reel_13 : decode cX6_reel 13 = .ok (.ireturn, 1) := by decide +kernel
theorem dX6_reel_14 : decode cX6_reel 14 = .ok (.iload_n 2, 1) := by decide +kernel
theorem dX6_reel_15 : decode cX6_reel 15 = .ok (.invokestatic 74, 3) := by decide +kernel
theorem dX6_reel_18 : decode cX6_reel 18 = .ok (.ifCond .ne 9, 3) := by decide +kernel
theorem dX6_reel_21 : decode cX6_reel 21 = .ok (.aload_n 0, 1) := by decide +kernel
theorem dX6_reel_22 : decode cX6_reel 22 = .ok (.iconst 2, 1) := by decide +kernel
theorem dX6_reel_23 : decode cX6_reel 23 = .ok (.invokevirtual 45, 3) := by decide +kernel
theorem dX6_reel_26 : decode cX6_reel 26 = .ok (.ireturn, 1) := by decide +kernel
theorem dX6_reel_27 : decode cX6_reel 27 = .ok (.aload_n 0, 1) := by decide +kernel
theorem dX6_reel_28 : decode cX6_reel 28 = .ok (.iload_n 1, 1) := by decide +kernel
theorem dX6_reel_29 : decode cX6_reel 29 = .ok (.iload_n 2, 1) := by decide +kernel
theorem dX6_reel_30 : decode cX6_reel 30 = .ok (.invokevirtual 130, 3) := by decide +kernel
theorem dX6_reel_33 : decode cX6_reel 33 = .ok (.istore 4, 2) := by decide +kernel
theorem dX6_reel_35 : decode cX6_reel 35 = .ok (.aload_n 0, 1) := by decide +kernel
theorem dX6_reel_36 : decode cX6_reel 36 = .ok (.iload_n 3, 1) := by decide +kernel
theorem dX6_reel_37 : decode cX6_reel 37 = .ok (.ifCond .eq 12, 3) := by decide +kernel
theorem dX6_reel_40 : decode cX6_reel 40 = .ok (.aload_n 0, 1) := by decide +kernel
theorem dX6_reel_41 : decode cX6_reel 41 = .ok (.iload 4, 2) := by decide +kernel
theorem dX6_reel_43 : decode cX6_reel 43 = .ok (.invokevirtual 119, 3) := by decide +kernel
theorem dX6_reel_46 : decode cX6_reel 46 = .ok (.goto 5, 3) := by decide +kernel
theorem dX6_reel_49 : decode cX6_reel 49 = .ok (.iload 4, 2) := by decide +kernel
theorem dX6_reel_51 : decode cX6_reel 51 = .ok (.invokevirtual 71, 3) := by decide +kernel
theorem dX6_reel_54 : decode cX6_reel 54 = .ok (.ireturn, 1) := by decide +kernel
theorem dX6_isOther_0 : decode cX6_isOther 0 = .ok (.iload_n 1, 1) := by decide +kernel
theorem dX6_isOther_1 : decode cX6_isOther 1 = .ok (.aload_n 0, 1) := by decide +kernel
theorem dX6_isOther_2 : decode cX6_isOther 2 = .ok (.getfield 133, 3) := by decide +kernel
theorem dX6_isOther_5 : decode cX6_isOther 5 = .ok (.if_icmp .eq 28, 3) := by decide +kernel
theorem dX6_isOther_8 : decode cX6_isOther 8 = .ok (.aload_n 0, 1) := by decide +kernel
theorem dX6_isOther_9 : decode cX6_isOther 9 = .ok (.iload_n 1, 1) := by decide +kernel
theorem dX6_isOther_10 : decode cX6_isOther 10 = .ok (.invokevirtual 107, 3) := by decide +kernel
theorem dX6_isOther_13 : decode cX6_isOther 13 = .ok (.ifCond .eq 20, 3) := by decide +kernel
theorem dX6_isOther_16 : decode cX6_isOther 16 = .ok (.aload_n 0, 1) := by decide +kernel
theorem dX6_isOther_17 : decode cX6_isOther 17 = .ok (.iload_n 1, 1) := by decide +kernel
theorem dX6_isOther_18 : decode cX6_isOther 18 = .ok (.iconst 2, 1) := by decide +kernel
theorem dX6_isOther_19 : decode cX6_isOther 19 = .ok (.invokevirtual 89, 3) := by decide +kernel
theorem dX6_isOther_22 : decode cX6_isOther 22 = .ok (.aload_n 0, 1) := by decide +kernel
theorem dX6_isOther_23 : decode cX6_isOther 23 = .ok (.getfield 136, 3) := by decide +kernel
theorem dX6_isOther_26 : decode cX6_isOther 26 = .ok (.if_icmp .ne 7, 3) := by decide +kernel
theorem dX6_isOther_29 : decode cX6_isOther 29 = .ok (.iconst 1, 1) := by decide +kernel
theorem dX6_isOther_30 : decode cX6_isOther 30 = .ok (.goto 4, 3) := by decide +kernel
theorem dX6_isOther_33 : decode cX6_isOther 33 = .ok (.iconst 0, 1) := by decide +kernel
theorem dX6_isOther_34 : decode cX6_isOther 34 = .ok (.ireturn, 1) := by decide +kernel
theorem dX6_meetsInHall_0 : decode cX6_meetsInHall 0 = .ok (.aload_n 0, 1) := by decide +kernel
theorem dX6_meetsInHall_1 : decode cX6_meetsInHall 1 = .ok (.getfield 139, 3) := by decide +kernel
theorem dX6_meetsInHall_4 : decode cX6_meetsInHall 4 = .ok (.aload_n 0, 1) := by decide +kernel
theorem dX6_meetsInHall_5 : decode cX6_meetsInHall 5 = .ok (.aload_n 0, 1) := by decide +kernel
theorem dX6_meetsInHall_6 : decode cX6_meetsInHall 6 = .ok (.getfield 142, 3) := by decide +kernel
theorem dX6_meetsInHall_9 : decode cX6_meetsInHall 9 = .ok (.iconst 1, 1) := by decide +kernel
theorem dX6_meetsInHall_10 : decode cX6_meetsInHall 10 = .ok (.invokevirtual 95, 3) := by decide +kernel
theorem dX6_meetsInHall_13 : decode cX6_meetsInHall 13 = .ok (.iadd, 1) := by decide +kernel
theorem dX6_meetsInHall_14 : decode cX6_meetsInHall 14 = .ok (.istore_n 1, 1) := by decide +kernel
theorem dX6_meetsInHall_15 : decode cX6_meetsInHall 15 = .ok (.iconst 0, 1) := by decide +kernel
theorem dX6_meetsInHall_16 : decode cX6_meetsInHall 16 = .ok (.istore_n 2, 1) := by decide +kernel
theorem dX6_meetsInHall_17 : decode cX6_meetsInHall 17 = .ok (.iload_n 2, 1) := by decide +kernel
theorem dX6_meetsInHall_18 : decode cX6_meetsInHall 18 = .ok (.aload_n 0, 1) := by decide +kernel
theorem dX6_meetsInHall_19 : decode cX6_meetsInHall 19 = .ok (.getfield 9, 3) := by decide +kernel
theorem dX6_meetsInHall_22 : decode cX6_meetsInHall 22 = .ok (.iconst 4, 1) := by decide +kernel
theorem dX6_meetsInHall_23 : decode cX6_meetsInHall 23 = .ok (.iaload, 1) := by decide +kernel
theorem dX6_meetsInHall_24 : decode cX6_meetsInHall 24 = .ok (.if_icmp .ge 60, 3) := by decide +kernel
theorem dX6_meetsInHall_27 : decode cX6_meetsInHall 27 = .ok (.aload_n 0, 1) := by decide +kernel
theorem dX6_meetsInHall_28 : decode cX6_meetsInHall 28 = .ok (.iload_n 2, 1) := by decide +kernel
theorem dX6_meetsInHall_29 : decode cX6_meetsInHall 29 = .ok (.invokevirtual 145, 3) := by decide +kernel
theorem dX6_meetsInHall_32 : decode cX6_meetsInHall 32 = .ok (.ifCond .eq 46, 3) := by decide +kernel
theorem dX6_meetsInHall_35 : decode cX6_meetsInHall 35 = .ok (.aload_n 0, 1) := by decide +kernel
theorem dX6_meetsInHall_36 : decode cX6_meetsInHall 36 = .ok (.iload_n 2, 1) := by decide +kernel
theorem dX6_meetsInHall_37 : decode cX6_meetsInHall 37 = .ok (.iconst 0, 1) := by decide +kernel
theorem dX6_meetsInHall_38 : decode cX6_meetsInHall 38 = .ok (.invokevirtual 89, 3) := by decide +kernel
theorem dX6_meetsInHall_41 : decode cX6_meetsInHall 41 = .ok (.aload_n 0, 1) := by decide +kernel
theorem dX6_meetsInHall_42 : decode cX6_meetsInHall 42 = .ok (.getfield 142, 3) := by decide +kernel
theorem dX6_meetsInHall_45 : decode cX6_meetsInHall 45 = .ok (.if_icmp .ne 33, 3) := by decide +kernel
theorem dX6_meetsInHall_48 : decode cX6_meetsInHall 48 = .ok (.aload_n 0, 1) := by decide +kernel
theorem dX6_meetsInHall_49 : decode cX6_meetsInHall 49 = .ok (.iload_n 2, 1) := by decide +kernel
theorem dX6_meetsInHall_50 : decode cX6_meetsInHall 50 = .ok (.iconst 3, 1) := by decide +kernel
theorem dX6_meetsInHall_51 : decode cX6_meetsInHall 51 = .ok (.invokevirtual 89, 3) := by decide +kernel
theorem dX6_meetsInHall_54 : decode cX6_meetsInHall 54 = .ok (.iload_n 1, 1) := by decide +kernel
theorem dX6_meetsInHall_55 : decode cX6_meetsInHall 55 = .ok (.if_icmp .ge 23, 3) := by decide +kernel
theorem dX6_meetsInHall_58 : decode cX6_meetsInHall 58 = .ok (.aload_n 0, 1) := by decide +kernel
theorem dX6_meetsInHall_59 : decode cX6_meetsInHall 59 = .ok (.getfield 148, 3) := by decide +kernel
theorem dX6_meetsInHall_62 : decode cX6_meetsInHall 62 = .ok (.aload_n 0, 1) := by decide +kernel
theorem dX6_meetsInHall_63 : decode cX6_meetsInHall 63 = .ok (.iload_n 2, 1) := by decide +kernel
theorem dX6_meetsInHall_64 : decode cX6_meetsInHall 64 = .ok (.invokevirtual 151, 3) := by decide +kernel
theorem dX6_meetsInHall_67 : decode cX6_meetsInHall 67 = .ok (.aload_n 0, 1) := by decide +kernel
theorem dX6_meetsInHall_68 : decode cX6_meetsInHall 68 = .ok (.iload_n 2, 1) := by decide +kernel
theorem dX6_meetsInHall_69 : decode cX6_meetsInHall 69 = .ok (.invokevirtual 154, 3) := by decide +kernel
theorem dX6_meetsInHall_72 : decode cX6_meetsInHall 72 = .ok (.iadd, 1) := by decide +kernel
theorem dX6_meetsInHall_73 : decode cX6_meetsInHall 73 = .ok (.if_icmp .ge 5, 3) := by decide +kernel
theorem dX6_meetsInHall_76 : decode cX6_meetsInHall 76 = .ok (.iload_n 2, 1) := by decide +kernel
theorem dX6_meetsInHall_77 : decode cX6_meetsInHall 77 = .ok (.ireturn, 1) := by decide +kernel
theorem dX6_meetsInHall_78 : decode cX6_meetsInHall 78 = .ok (.iinc 2 1, 3) := by decide +kernel
theorem dX6_meetsInHall_81 : decode cX6_meetsInHall 81 = .ok (.goto (-64), 3) := by decide +kernel
theorem dX6_meetsInHall_84 : decode cX6_meetsInHall 84 = .ok (.iconst (-1), 1) := by decide +kernel
theorem dX6_meetsInHall_85 : decode cX6_meetsInHall 85 = .ok (.ireturn, 1) := by decide +kernel
theorem dX6_copiesAt_0 : decode cX6_copiesAt 0 = .ok (.iconst 1, 1) := by decide +kernel
theorem dX6_copiesAt_1 : decode cX6_copiesAt 1 = .ok (.istore_n 2, 1) := by decide +kernel
theorem dX6_copiesAt_2 : decode cX6_copiesAt 2 = .ok (.iconst 0, 1) := by decide +kernel
theorem dX6_copiesAt_3 : decode cX6_copiesAt 3 = .ok (.istore_n 3, 1) := by decide +kernel
theorem dX6_copiesAt_4 : decode cX6_copiesAt 4 = .ok (.iload_n 3, 1) := by decide +kernel
theorem dX6_copiesAt_5 : decode cX6_copiesAt 5 = .ok (.aload_n 0, 1) := by decide +kernel
theorem dX6_copiesAt_6 : decode cX6_copiesAt 6 = .ok (.getfield 9, 3) := by decide +kernel
theorem dX6_copiesAt_9 : decode cX6_copiesAt 9 = .ok (.iconst 4, 1) := by decide +kernel
theorem dX6_copiesAt_10 : decode cX6_copiesAt 10 = .ok (.iaload, 1) := by decide +kernel
theorem dX6_copiesAt_11 : decode cX6_copiesAt 11 = .ok (.if_icmp .ge 66, 3) := by decide +kernel
theorem dX6_copiesAt_14 : decode cX6_copiesAt 14 = .ok (.iload_n 2, 1) := by decide +kernel
theorem dX6_copiesAt_15 : decode cX6_copiesAt 15 = .ok (.aload_n 0, 1) := by decide +kernel
theorem dX6_copiesAt_16 : decode cX6_copiesAt 16 = .ok (.iload_n 3, 1) := by decide +kernel
theorem dX6_copiesAt_17 : decode cX6_copiesAt 17 = .ok (.invokevirtual 145, 3) := by decide +kernel
theorem dX6_copiesAt_20 : decode cX6_copiesAt 20 = .ok (.ifCond .eq 48, 3) := by decide +kernel
theorem dX6_copiesAt_23 : decode cX6_copiesAt 23 = .ok (.aload_n 0, 1) := by decide +kernel
theorem dX6_copiesAt_24 : decode cX6_copiesAt 24 = .ok (.iload_n 3, 1) := by decide +kernel
theorem dX6_copiesAt_25 : decode cX6_copiesAt 25 = .ok (.iconst 1, 1) := by decide +kernel
theorem dX6_copiesAt_26 : decode cX6_copiesAt 26 = .ok (.invokevirtual 89, 3) := by decide +kernel
theorem dX6_copiesAt_29 : decode cX6_copiesAt 29 = .ok (.aload_n 0, 1) := by decide +kernel
theorem dX6_copiesAt_30 : decode cX6_copiesAt 30 = .ok (.getfield 157, 3) := by decide +kernel
theorem dX6_copiesAt_33 : decode cX6_copiesAt 33 = .ok (.if_icmp .ne 35, 3) := by decide +kernel
theorem dX6_copiesAt_36 : decode cX6_copiesAt 36 = .ok (.iload_n 1, 1) := by decide +kernel
theorem dX6_copiesAt_37 : decode cX6_copiesAt 37 = .ok (.aload_n 0, 1) := by decide +kernel
theorem dX6_copiesAt_38 : decode cX6_copiesAt 38 = .ok (.iload_n 3, 1) := by decide +kernel
theorem dX6_copiesAt_39 : decode cX6_copiesAt 39 = .ok (.iconst 3, 1) := by decide +kernel
theorem dX6_copiesAt_40 : decode cX6_copiesAt 40 = .ok (.invokevirtual 89, 3) := by decide +kernel
theorem dX6_copiesAt_43 : decode cX6_copiesAt 43 = .ok (.aload_n 0, 1) := by decide +kernel
theorem dX6_copiesAt_44 : decode cX6_copiesAt 44 = .ok (.iload_n 3, 1) := by decide +kernel
theorem dX6_copiesAt_45 : decode cX6_copiesAt 45 = .ok (.invokevirtual 151, 3) := by decide +kernel
theorem dX6_copiesAt_48 : decode cX6_copiesAt 48 = .ok (.aload_n 0, 1) := by decide +kernel
theorem dX6_copiesAt_49 : decode cX6_copiesAt 49 = .ok (.getfield 9, 3) := by decide +kernel
theorem dX6_copiesAt_52 : decode cX6_copiesAt 52 = .ok (.bipush 10, 2) := by decide +kernel
theorem dX6_copiesAt_54 : decode cX6_copiesAt 54 = .ok (.iaload, 1) := by decide +kernel
theorem dX6_copiesAt_55 : decode cX6_copiesAt 55 = .ok (.iadd, 1) := by decide +kernel
theorem dX6_copiesAt_56 : decode cX6_copiesAt 56 = .ok (.iconst 1, 1) := by decide +kernel
theorem dX6_copiesAt_57 : decode cX6_copiesAt 57 = .ok (.isub, 1) := by decide +kernel
theorem dX6_copiesAt_58 : decode cX6_copiesAt 58 = .ok (.invokestatic 64, 3) := by decide +kernel
theorem dX6_copiesAt_61 : decode cX6_copiesAt 61 = .ok (.ifCond .eq 7, 3) := by decide +kernel
theorem dX6_copiesAt_64 : decode cX6_copiesAt 64 = .ok (.iconst 1, 1) := by decide +kernel
theorem dX6_copiesAt_65 : decode cX6_copiesAt 65 = .ok (.goto 4, 3) := by decide +kernel
theorem dX6_copiesAt_68 : decode cX6_copiesAt 68 = .ok (.iconst 0, 1) := by decide +kernel
theorem dX6_copiesAt_69 : decode cX6_copiesAt 69 = .ok (.iadd, 1) := by decide +kernel
theorem dX6_copiesAt_70 : decode cX6_copiesAt 70 = .ok (.istore_n 2, 1) := by decide +kernel
theorem dX6_copiesAt_71 : decode cX6_copiesAt 71 = .ok (.iinc 3 1, 3) := by decide +kernel
theorem dX6_copiesAt_74 : decode cX6_copiesAt 74 = .ok (.goto (-70), 3) := by decide +kernel
theorem dX6_copiesAt_77 : decode cX6_copiesAt 77 = .ok (.iload_n 2, 1) := by decide +kernel
theorem dX6_copiesAt_78 : decode cX6_copiesAt 78 = .ok (.ireturn, 1) := by decide +kernel
theorem dX6_tooManyCopies_0 : decode cX6_tooManyCopies 0 = .ok (.aload_n 0, 1) := by decide +kernel
theorem dX6_tooManyCopies_1 : decode cX6_tooManyCopies 1 = .ok (.getfield 139, 3) := by decide +kernel
theorem dX6_tooManyCopies_4 : decode cX6_tooManyCopies 4 = .ok (.aload_n 0, 1) := by decide +kernel
theorem dX6_tooManyCopies_5 : decode cX6_tooManyCopies 5 = .ok (.getfield 9, 3) := by decide +kernel
theorem dX6_tooManyCopies_8 : decode cX6_tooManyCopies 8 = .ok (.bipush 10, 2) := by decide +kernel
theorem dX6_tooManyCopies_10 : decode cX6_tooManyCopies 10 = .ok (.iaload, 1) := by decide +kernel
theorem dX6_tooManyCopies_11 : decode cX6_tooManyCopies 11 = .ok (.iadd, 1) := by decide +kernel
theorem dX6_tooManyCopies_12 : decode cX6_tooManyCopies 12 = .ok (.istore_n 1, 1) := by decide +kernel
theorem dX6_tooManyCopies_13 : decode cX6_tooManyCopies 13 = .ok (.aload_n 0, 1) := by decide +kernel
theorem dX6_tooManyCopies_14 : decode cX6_tooManyCopies 14 = .ok (.aload_n 0, 1) := by decide +kernel
theorem dX6_tooManyCopies_15 : decode cX6_tooManyCopies 15 = .ok (.getfield 148, 3) := by decide +kernel
theorem dX6_tooManyCopies_18 : decode cX6_tooManyCopies 18 = .ok (.invokevirtual 160, 3) := by decide +kernel
theorem dX6_tooManyCopies_21 : decode cX6_tooManyCopies 21 = .ok (.aload_n 0, 1) := by decide +kernel
theorem dX6_tooManyCopies_22 : decode cX6_tooManyCopies 22 = .ok (.aload_n 0, 1) := by decide +kernel
theorem dX6_tooManyCopies_23 : decode cX6_tooManyCopies 23 = .ok (.getfield 157, 3) := by decide +kernel
theorem dX6_tooManyCopies_26 : decode cX6_tooManyCopies 26 = .ok (.iconst 3, 1) := by decide +kernel
theorem dX6_tooManyCopies_27 : decode cX6_tooManyCopies 27 = .ok (.invokevirtual 81, 3) := by decide +kernel
theorem dX6_tooManyCopies_30 : decode cX6_tooManyCopies 30 = .ok (.if_icmp .le 10, 3) := by decide +kernel
theorem dX6_tooManyCopies_33 : decode cX6_tooManyCopies 33 = .ok (.aload_n 0, 1) := by decide +kernel
theorem dX6_tooManyCopies_34 : decode cX6_tooManyCopies 34 = .ok (.getfield 148, 3) := by decide +kernel
theorem dX6_tooManyCopies_37 : decode cX6_tooManyCopies 37 = .ok (.goto 4, 3) := by decide +kernel
theorem dX6_tooManyCopies_40 : decode cX6_tooManyCopies 40 = .ok (.iconst (-1), 1) := by decide +kernel
theorem dX6_tooManyCopies_41 : decode cX6_tooManyCopies 41 = .ok (.istore_n 2, 1) := by decide +kernel
theorem dX6_tooManyCopies_42 : decode cX6_tooManyCopies 42 = .ok (.iconst 0, 1) := by decide +kernel
theorem dX6_tooManyCopies_43 : decode cX6_tooManyCopies 43 = .ok (.istore_n 3, 1) := by decide +kernel
theorem dX6_tooManyCopies_44 : decode cX6_tooManyCopies 44 = .ok (.iload_n 3, 1) := by decide +kernel
theorem dX6_tooManyCopies_45 : decode cX6_tooManyCopies 45 = .ok (.aload_n 0, 1) := by decide +kernel
