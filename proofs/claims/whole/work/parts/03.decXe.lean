/-! decode rows -/
theorem dX6_writesNumber_7 : decode cX6_writesNumber 7 = .ok (.if_icmp .gt 11, 3) := by decide +kernel
theorem dX6_writesNumber_10 : decode cX6_writesNumber 10 = .ok (.iload_n 2, 1) := by decide +kernel
theorem dX6_writesNumber_11 : decode cX6_writesNumber 11 = .ok (.bipush 10, 2) := by decide +kernel
theorem dX6_writesNumber_13 : decode cX6_writesNumber 13 = .ok (.imul, 1) := by decide +kernel
theorem dX6_writesNumber_14 : decode cX6_writesNumber 14 = .ok (.istore_n 2, 1) := by decide +kernel
theorem dX6_writesNumber_15 : decode cX6_writesNumber 15 = .ok (.goto (-13), 3) := by decide +kernel
theorem dX6_writesNumber_18 : decode cX6_writesNumber 18 = .ok (.iload_n 2, 1) := by decide +kernel
theorem dX6_writesNumber_19 : decode cX6_writesNumber 19 = .ok (.istore_n 3, 1) := by decide +kernel
theorem dX6_writesNumber_20 : decode cX6_writesNumber 20 = .ok (.iload_n 3, 1) := by decide +kernel
theorem dX6_writesNumber_21 : decode cX6_writesNumber 21 = .ok (.ifCond .le 25, 3) := by decide +kernel
theorem dX6_writesNumber_24 : decode cX6_writesNumber 24 = .ok (.aload_n 0, 1) := by decide +kernel
theorem dX6_writesNumber_25 : decode cX6_writesNumber 25 = .ok (.bipush 48, 2) := by decide +kernel
theorem dX6_writesNumber_27 : decode cX6_writesNumber 27 = .ok (.iload_n 1, 1) := by decide +kernel
theorem dX6_writesNumber_28 : decode cX6_writesNumber 28 = .ok (.iload_n 3, 1) := by decide +kernel
theorem dX6_writesNumber_29 : decode cX6_writesNumber 29 = .ok (.idiv, 1) := by decide +kernel
theorem dX6_writesNumber_30 : decode cX6_writesNumber 30 = .ok (.bipush 10, 2) := by decide +kernel
theorem dX6_writesNumber_32 : decode cX6_writesNumber 32 = .ok (.irem, 1) := by decide +kernel
theorem dX6_writesNumber_33 : decode cX6_writesNumber 33 = .ok (.iadd, 1) := by decide +kernel
theorem dX6_writesNumber_34 : decode cX6_writesNumber 34 = .ok (.i2c, 1) := by decide +kernel
theorem dX6_writesNumber_35 : decode cX6_writesNumber 35 = .ok (.invokevirtual 251, 3) := by decide +kernel
theorem dX6_writesNumber_38 : decode cX6_writesNumber 38 = .ok (.iload_n 3, 1) := by decide +kernel
theorem dX6_writesNumber_39 : decode cX6_writesNumber 39 = .ok (.bipush 10, 2) := by decide +kernel
theorem dX6_writesNumber_41 : decode cX6_writesNumber 41 = .ok (.idiv, 1) := by decide +kernel
theorem dX6_writesNumber_42 : decode cX6_writesNumber 42 = .ok (.istore_n 3, 1) := by decide +kernel
theorem dX6_writesNumber_43 : decode cX6_writesNumber 43 = .ok (.goto (-23), 3) := by decide +kernel
theorem dX6_writesNumber_46 : decode cX6_writesNumber 46 = .ok (.return_, 1) := by decide +kernel
theorem dX6_nextShow_0 : decode cX6_nextShow 0 = .ok (.iconst (-1), 1) := by decide +kernel
theorem dX6_nextShow_1 : decode cX6_nextShow 1 = .ok (.istore 4, 2) := by decide +kernel
theorem dX6_nextShow_3 : decode cX6_nextShow 3 = .ok (.iconst 0, 1) := by decide +kernel
theorem dX6_nextShow_4 : decode cX6_nextShow 4 = .ok (.istore 5, 2) := by decide +kernel
theorem dX6_nextShow_6 : decode cX6_nextShow 6 = .ok (.iload 5, 2) := by decide +kernel
theorem dX6_nextShow_8 : decode cX6_nextShow 8 = .ok (.aload_n 0, 1) := by decide +kernel
theorem dX6_nextShow_9 : decode cX6_nextShow 9 = .ok (.getfield 9, 3) := by decide +kernel
theorem dX6_nextShow_12 : decode cX6_nextShow 12 = .ok (.iconst 4, 1) := by decide +kernel
theorem dX6_nextShow_13 : decode cX6_nextShow 13 = .ok (.iaload, 1) := by decide +kernel
theorem dX6_nextShow_14 : decode cX6_nextShow 14 = .ok (.if_icmp .ge 95, 3) := by decide +kernel
theorem dX6_nextShow_17 : decode cX6_nextShow 17 = .ok (.aload_n 0, 1) := by decide +kernel
theorem dX6_nextShow_18 : decode cX6_nextShow 18 = .ok (.iload 5, 2) := by decide +kernel
theorem dX6_nextShow_20 : decode cX6_nextShow 20 = .ok (.invokevirtual 107, 3) := by decide +kernel
theorem dX6_nextShow_23 : decode cX6_nextShow 23 = .ok (.ifCond .eq 40, 3) := by decide +kernel
theorem dX6_nextShow_26 : decode cX6_nextShow 26 = .ok (.aload_n 0, 1) := by decide +kernel
theorem dX6_nextShow_27 : decode cX6_nextShow 27 = .ok (.iload 5, 2) := by decide +kernel
theorem dX6_nextShow_29 : decode cX6_nextShow 29 = .ok (.iconst 0, 1) := by decide +kernel
theorem dX6_nextShow_30 : decode cX6_nextShow 30 = .ok (.invokevirtual 89, 3) := by decide +kernel
theorem dX6_nextShow_33 : decode cX6_nextShow 33 = .ok (.iload_n 1, 1) := by decide +kernel
theorem dX6_nextShow_34 : decode cX6_nextShow 34 = .ok (.if_icmp .ne 29, 3) := by decide +kernel
theorem dX6_nextShow_37 : decode cX6_nextShow 37 = .ok (.aload_n 0, 1) := by decide +kernel
theorem dX6_nextShow_38 : decode cX6_nextShow 38 = .ok (.iload 5, 2) := by decide +kernel
theorem dX6_nextShow_40 : decode cX6_nextShow 40 = .ok (.iconst 2, 1) := by decide +kernel
theorem dX6_nextShow_41 : decode cX6_nextShow 41 = .ok (.invokevirtual 89, 3) := by decide +kernel
theorem dX6_nextShow_44 : decode cX6_nextShow 44 = .ok (.iload_n 2, 1) := by decide +kernel
theorem dX6_nextShow_45 : decode cX6_nextShow 45 = .ok (.if_icmp .ne 18, 3) := by decide +kernel
theorem dX6_nextShow_48 : decode cX6_nextShow 48 = .ok (.aload_n 0, 1) := by decide +kernel
theorem dX6_nextShow_49 : decode cX6_nextShow 49 = .ok (.iload 5, 2) := by decide +kernel
theorem dX6_nextShow_51 : decode cX6_nextShow 51 = .ok (.iconst 3, 1) := by decide +kernel
theorem dX6_nextShow_52 : decode cX6_nextShow 52 = .ok (.invokevirtual 89, 3) := by decide +kernel
theorem dX6_nextShow_55 : decode cX6_nextShow 55 = .ok (.iload_n 3, 1) := by decide +kernel
theorem dX6_nextShow_56 : decode cX6_nextShow 56 = .ok (.if_icmp .le 7, 3) := by decide +kernel
theorem dX6_nextShow_59 : decode cX6_nextShow 59 = .ok (.iconst 1, 1) := by decide +kernel
theorem dX6_nextShow_60 : decode cX6_nextShow 60 = .ok (.goto 4, 3) := by decide +kernel
theorem dX6_nextShow_63 : decode cX6_nextShow 63 = .ok (.iconst 0, 1) := by decide +kernel
theorem dX6_nextShow_64 : decode cX6_nextShow 64 = .ok (.istore 6, 2) := by decide +kernel
theorem dX6_nextShow_66 : decode cX6_nextShow 66 = .ok (.iload 6, 2) := by decide +kernel
theorem dX6_nextShow_68 : decode cX6_nextShow 68 = .ok (.ifCond .eq 31, 3) := by decide +kernel
theorem dX6_nextShow_71 : decode cX6_nextShow 71 = .ok (.iload 4, 2) := by decide +kernel
theorem dX6_nextShow_73 : decode cX6_nextShow 73 = .ok (.iconst (-1), 1) := by decide +kernel
theorem dX6_nextShow_74 : decode cX6_nextShow 74 = .ok (.if_icmp .eq 20, 3) := by decide +kernel
theorem dX6_nextShow_77 : decode cX6_nextShow 77 = .ok (.aload_n 0, 1) := by decide +kernel
theorem dX6_nextShow_78 : decode cX6_nextShow 78 = .ok (.iload 5, 2) := by decide +kernel
theorem dX6_nextShow_80 : decode cX6_nextShow 80 = .ok (.iconst 3, 1) := by decide +kernel
theorem dX6_nextShow_81 : decode cX6_nextShow 81 = .ok (.invokevirtual 89, 3) := by decide +kernel
theorem dX6_nextShow_84 : decode cX6_nextShow 84 = .ok (.aload_n 0, 1) := by decide +kernel
theorem dX6_nextShow_85 : decode cX6_nextShow 85 = .ok (.iload 4, 2) := by decide +kernel
theorem dX6_nextShow_87 : decode cX6_nextShow 87 = .ok (.iconst 3, 1) := by decide +kernel
theorem dX6_nextShow_88 : decode cX6_nextShow 88 = .ok (.invokevirtual 89, 3) := by decide +kernel
theorem dX6_nextShow_91 : decode cX6_nextShow 91 = .ok (.if_icmp .ge 8, 3) := by decide +kernel
theorem dX6_nextShow_94 : decode cX6_nextShow 94 = .ok (.iload 5, 2) := by decide +kernel
theorem dX6_nextShow_96 : decode cX6_nextShow 96 = .ok (.goto 5, 3) := by decide +kernel
theorem dX6_nextShow_99 : decode cX6_nextShow 99 = .ok (.iload 4, 2) := by decide +kernel
theorem dX6_nextShow_101 : decode cX6_nextShow 101 = .ok (.istore 4, 2) := by decide +kernel
theorem dX6_nextShow_103 : decode cX6_nextShow 103 = .ok (.iinc 5 1, 3) := by decide +kernel
theorem dX6_nextShow_106 : decode cX6_nextShow 106 = .ok (.goto (-100), 3) := by decide +kernel
theorem dX6_nextShow_109 : decode cX6_nextShow 109 = .ok (.iload 4, 2) := by decide +kernel
theorem dX6_nextShow_111 : decode cX6_nextShow 111 = .ok (.ireturn, 1) := by decide +kernel
theorem dX6_write_0 : decode cX6_write 0 = .ok (.aload_n 0, 1) := by decide +kernel
theorem dX6_write_1 : decode cX6_write 1 = .ok (.iload_n 1, 1) := by decide +kernel
theorem dX6_write_2 : decode cX6_write 2 = .ok (.invokevirtual 104, 3) := by decide +kernel
theorem dX6_write_5 : decode cX6_write 5 = .ok (.ifCond .ne 9, 3) := by decide +kernel
theorem dX6_write_8 : decode cX6_write 8 = .ok (.aload_n 0, 1) := by decide +kernel
theorem dX6_write_9 : decode cX6_write 9 = .ok (.iconst 1, 1) := by decide +kernel
theorem dX6_write_10 : decode cX6_write 10 = .ok (.invokevirtual 45, 3) := by decide +kernel
theorem dX6_write_13 : decode cX6_write 13 = .ok (.ireturn, 1) := by decide +kernel
theorem dX6_write_14 : decode cX6_write 14 = .ok (.iload_n 2, 1) := by decide +kernel
theorem dX6_write_15 : decode cX6_write 15 = .ok (.invokestatic 74, 3) := by decide +kernel
theorem dX6_write_18 : decode cX6_write 18 = .ok (.ifCond .ne 9, 3) := by decide +kernel
theorem dX6_write_21 : decode cX6_write 21 = .ok (.aload_n 0, 1) := by decide +kernel
theorem dX6_write_22 : decode cX6_write 22 = .ok (.iconst 2, 1) := by decide +kernel
theorem dX6_write_23 : decode cX6_write 23 = .ok (.invokevirtual 45, 3) := by decide +kernel
theorem dX6_write_26 : decode cX6_write 26 = .ok (.ireturn, 1) := by decide +kernel
theorem dX6_write_27 : decode cX6_write 27 = .ok (.aload_n 0, 1) := by decide +kernel
theorem dX6_write_28 : decode cX6_write 28 = .ok (.iconst 0, 1) := by decide +kernel
theorem dX6_write_29 : decode cX6_write 29 = .ok (.putfield 239, 3) := by decide +kernel
theorem dX6_write_32 : decode cX6_write 32 = .ok (.aload_n 0, 1) := by decide +kernel
theorem dX6_write_33 : decode cX6_write 33 = .ok (.iload_n 1, 1) := by decide +kernel
theorem dX6_write_34 : decode cX6_write 34 = .ok (.iload_n 2, 1) := by decide +kernel
theorem dX6_write_35 : decode cX6_write 35 = .ok (.invokevirtual 172, 3) := by decide +kernel
theorem dX6_write_38 : decode cX6_write 38 = .ok (.ifCond .eq 9, 3) := by decide +kernel
theorem dX6_write_41 : decode cX6_write 41 = .ok (.aload_n 0, 1) := by decide +kernel
theorem dX6_write_42 : decode cX6_write 42 = .ok (.ldc 255, 2) := by decide +kernel
theorem dX6_write_44 : decode cX6_write 44 = .ok (.invokevirtual 257, 3) := by decide +kernel
theorem dX6_write_47 : decode cX6_write 47 = .ok (.aload_n 0, 1) := by decide +kernel
theorem dX6_write_48 : decode cX6_write 48 = .ok (.iload_n 1, 1) := by decide +kernel
theorem dX6_write_49 : decode cX6_write 49 = .ok (.iload_n 2, 1) := by decide +kernel
theorem dX6_write_50 : decode cX6_write 50 = .ok (.iconst (-1), 1) := by decide +kernel
theorem dX6_write_51 : decode cX6_write 51 = .ok (.invokevirtual 261, 3) := by decide +kernel
theorem dX6_write_54 : decode cX6_write 54 = .ok (.istore_n 3, 1) := by decide +kernel
theorem dX6_write_55 : decode cX6_write 55 = .ok (.iload_n 3, 1) := by decide +kernel
theorem dX6_write_56 : decode cX6_write 56 = .ok (.iconst (-1), 1) := by decide +kernel
theorem dX6_write_57 : decode cX6_write 57 = .ok (.if_icmp .ne 10, 3) := by decide +kernel
theorem dX6_write_60 : decode cX6_write 60 = .ok (.aload_n 0, 1) := by decide +kernel
theorem dX6_write_61 : decode cX6_write 61 = .ok (.ldc_w 264, 3) := by decide +kernel
theorem dX6_write_64 : decode cX6_write 64 = .ok (.invokevirtual 257, 3) := by decide +kernel
theorem dX6_write_67 : decode cX6_write 67 = .ok (.iload_n 3, 1) := by decide +kernel
theorem dX6_write_68 : decode cX6_write 68 = .ok (.iconst (-1), 1) := by decide +kernel
theorem dX6_write_69 : decode cX6_write 69 = .ok (.if_icmp .eq 106, 3) := by decide +kernel
theorem dX6_write_72 : decode cX6_write 72 = .ok (.aload_n 0, 1) := by decide +kernel
theorem dX6_write_73 : decode cX6_write 73 = .ok (.aload_n 0, 1) := by decide +kernel
theorem dX6_write_74 : decode cX6_write 74 = .ok (.iload_n 3, 1) := by decide +kernel
theorem dX6_write_75 : decode cX6_write 75 = .ok (.iconst 3, 1) := by decide +kernel
theorem dX6_write_76 : decode cX6_write 76 = .ok (.invokevirtual 89, 3) := by decide +kernel
theorem dX6_write_79 : decode cX6_write 79 = .ok (.invokevirtual 266, 3) := by decide +kernel
theorem dX6_write_82 : decode cX6_write 82 = .ok (.aload_n 0, 1) := by decide +kernel
theorem dX6_write_83 : decode cX6_write 83 = .ok (.bipush 45, 2) := by decide +kernel
theorem dX6_write_85 : decode cX6_write 85 = .ok (.invokevirtual 251, 3) := by decide +kernel
theorem dX6_write_88 : decode cX6_write 88 = .ok (.aload_n 0, 1) := by decide +kernel
theorem dX6_write_89 : decode cX6_write 89 = .ok (.aload_n 0, 1) := by decide +kernel
theorem dX6_write_90 : decode cX6_write 90 = .ok (.iload_n 3, 1) := by decide +kernel
theorem dX6_write_91 : decode cX6_write 91 = .ok (.invokevirtual 151, 3) := by decide +kernel
theorem dX6_write_94 : decode cX6_write 94 = .ok (.invokevirtual 266, 3) := by decide +kernel
theorem dX6_write_97 : decode cX6_write 97 = .ok (.aload_n 0, 1) := by decide +kernel
theorem dX6_write_98 : decode cX6_write 98 = .ok (.ldc_w 270, 3) := by decide +kernel
theorem dX6_write_101 : decode cX6_write 101 = .ok (.invokevirtual 257, 3) := by decide +kernel
theorem dX6_write_104 : decode cX6_write 104 = .ok (.aload_n 0, 1) := by decide +kernel
theorem dX6_write_105 : decode cX6_write 105 = .ok (.aload_n 0, 1) := by decide +kernel
theorem dX6_write_106 : decode cX6_write 106 = .ok (.iload_n 3, 1) := by decide +kernel
theorem dX6_write_107 : decode cX6_write 107 = .ok (.iconst 1, 1) := by decide +kernel
theorem dX6_write_108 : decode cX6_write 108 = .ok (.invokevirtual 89, 3) := by decide +kernel
theorem dX6_write_111 : decode cX6_write 111 = .ok (.invokevirtual 266, 3) := by decide +kernel
theorem dX6_write_114 : decode cX6_write 114 = .ok (.aload_n 0, 1) := by decide +kernel
theorem dX6_write_115 : decode cX6_write 115 = .ok (.bipush 32, 2) := by decide +kernel
theorem dX6_write_117 : decode cX6_write 117 = .ok (.invokevirtual 251, 3) := by decide +kernel
theorem dX6_write_120 : decode cX6_write 120 = .ok (.aload_n 0, 1) := by decide +kernel
theorem dX6_write_121 : decode cX6_write 121 = .ok (.aload_n 0, 1) := by decide +kernel
theorem dX6_write_122 : decode cX6_write 122 = .ok (.iload_n 3, 1) := by decide +kernel
theorem dX6_write_123 : decode cX6_write 123 = .ok (.bipush 7, 2) := by decide +kernel
theorem dX6_write_125 : decode cX6_write 125 = .ok (.invokevirtual 89, 3) := by decide +kernel
theorem dX6_write_128 : decode cX6_write 128 = .ok (.invokevirtual 266, 3) := by decide +kernel
theorem dX6_write_131 : decode cX6_write 131 = .ok (.aload_n 0, 1) := by decide +kernel
theorem dX6_write_132 : decode cX6_write 132 = .ok (.bipush 47, 2) := by decide +kernel
theorem dX6_write_134 : decode cX6_write 134 = .ok (.invokevirtual 251, 3) := by decide +kernel
theorem dX6_write_137 : decode cX6_write 137 = .ok (.aload_n 0, 1) := by decide +kernel
theorem dX6_write_138 : decode cX6_write 138 = .ok (.aload_n 0, 1) := by decide +kernel
theorem dX6_write_139 : decode cX6_write 139 = .ok (.iload_n 1, 1) := by decide +kernel
theorem dX6_write_140 : decode cX6_write 140 = .ok (.iconst 0, 1) := by decide +kernel
theorem dX6_write_141 : decode cX6_write 141 = .ok (.invokevirtual 95, 3) := by decide +kernel
theorem dX6_write_144 : decode cX6_write 144 = .ok (.invokevirtual 266, 3) := by decide +kernel
theorem dX6_write_147 : decode cX6_write 147 = .ok (.aload_n 0, 1) := by decide +kernel
theorem dX6_write_148 : decode cX6_write 148 = .ok (.iload_n 1, 1) := by decide +kernel
theorem dX6_write_149 : decode cX6_write 149 = .ok (.iload_n 2, 1) := by decide +kernel
theorem dX6_write_150 : decode cX6_write 150 = .ok (.aload_n 0, 1) := by decide +kernel
theorem dX6_write_151 : decode cX6_write 151 = .ok (.iload_n 3, 1) := by decide +kernel
theorem dX6_write_152 : decode cX6_write 152 = .ok (.iconst 3, 1) := by decide +kernel
theorem dX6_write_153 : decode cX6_write 153 = .ok (.invokevirtual 89, 3) := by decide +kernel
theorem dX6_write_156 : decode cX6_write 156 = .ok (.invokevirtual 261, 3) := by decide +kernel
theorem dX6_write_159 : decode cX6_write 159 = .ok (.istore_n 3, 1) := by decide +kernel
theorem dX6_write_160 : decode cX6_write 160 = .ok (.iload_n 3, 1) := by decide +kernel
theorem dX6_write_161 : decode cX6_write 161 = .ok (.iconst (-1), 1) := by decide +kernel
theorem dX6_write_162 : decode cX6_write 162 = .ok (.if_icmp .eq (-95), 3) := by decide +kernel
theorem dX6_write_165 : decode cX6_write 165 = .ok (.aload_n 0, 1) := by decide +kernel
theorem dX6_write_166 : decode cX6_write 166 = .ok (.ldc_w 272, 3) := by decide +kernel
theorem dX6_write_169 : decode cX6_write 169 = .ok (.invokevirtual 257, 3) := by decide +kernel
theorem dX6_write_172 : decode cX6_write 172 = .ok (.goto (-105), 3) := by decide +kernel
theorem dX6_write_175 : decode cX6_write 175 = .ok (.aload_n 0, 1) := by decide +kernel
theorem dX6_write_176 : decode cX6_write 176 = .ok (.aload_n 0, 1) := by decide +kernel
theorem dX6_write_177 : decode cX6_write 177 = .ok (.getfield 239, 3) := by decide +kernel
theorem dX6_write_180 : decode cX6_write 180 = .ok (.invokevirtual 71, 3) := by decide +kernel
theorem dX6_write_183 : decode cX6_write 183 = .ok (.ireturn, 1) := by decide +kernel
theorem dX6_written_0 : decode cX6_written 0 = .ok (.iload_n 1, 1) := by decide +kernel
theorem dX6_written_1 : decode cX6_written 1 = .ok (.iconst 0, 1) := by decide +kernel
theorem dX6_written_2 : decode cX6_written 2 = .ok (.aload_n 0, 1) := by decide +kernel
theorem dX6_written_3 : decode cX6_written 3 = .ok (.getfield 239, 3) := by decide +kernel
theorem dX6_written_6 : decode cX6_written 6 = .ok (.iconst 1, 1) := by decide +kernel
theorem dX6_written_7 : decode cX6_written 7 = .ok (.isub, 1) := by decide +kernel
theorem dX6_written_8 : decode cX6_written 8 = .ok (.invokestatic 64, 3) := by decide +kernel
theorem dX6_written_11 : decode cX6_written 11 = .ok (.ifCond .ne 10, 3) := by decide +kernel
theorem dX6_written_14 : decode cX6_written 14 = .ok (.aload_n 0, 1) := by decide +kernel
theorem dX6_written_15 : decode cX6_written 15 = .ok (.iconst 1, 1) := by decide +kernel
theorem dX6_written_16 : decode cX6_written 16 = .ok (.invokevirtual 45, 3) := by decide +kernel
theorem dX6_written_19 : decode cX6_written 19 = .ok (.i2c, 1) := by decide +kernel
theorem dX6_written_20 : decode cX6_written 20 = .ok (.ireturn, 1) := by decide +kernel
theorem dX6_written_21 : decode cX6_written 21 = .ok (.aload_n 0, 1) := by decide +kernel
theorem dX6_written_22 : decode cX6_written 22 = .ok (.iconst 0, 1) := by decide +kernel
theorem dX6_written_23 : decode cX6_written 23 = .ok (.putfield 36, 3) := by decide +kernel
theorem dX6_written_26 : decode cX6_written 26 = .ok (.aload_n 0, 1) := by decide +kernel
theorem dX6_written_27 : decode cX6_written 27 = .ok (.getfield 30, 3) := by decide +kernel
theorem dX6_written_30 : decode cX6_written 30 = .ok (.iload_n 1, 1) := by decide +kernel
theorem dX6_written_31 : decode cX6_written 31 = .ok (.caload, 1) := by decide +kernel
theorem dX6_written_32 : decode cX6_written 32 = .ok (.ireturn, 1) := by decide +kernel
theorem dX6_append_0 : decode cX6_append 0 = .ok (.iload_n 1, 1) := by decide +kernel
theorem dX6_append_1 : decode cX6_append 1 = .ok (.bipush 32, 2) := by decide +kernel
theorem dX6_append_3 : decode cX6_append 3 = .ok (.bipush 126, 2) := by decide +kernel
theorem dX6_append_5 : decode cX6_append 5 = .ok (.invokestatic 64, 3) := by decide +kernel
theorem dX6_append_8 : decode cX6_append 8 = .ok (.ifCond .ne 9, 3) := by decide +kernel
theorem dX6_append_11 : decode cX6_append 11 = .ok (.aload_n 0, 1) := by decide +kernel
theorem dX6_append_12 : decode cX6_append 12 = .ok (.iconst 1, 1) := by decide +kernel
theorem dX6_append_13 : decode cX6_append 13 = .ok (.invokevirtual 45, 3) := by decide +kernel
theorem dX6_append_16 : decode cX6_append 16 = .ok (.ireturn, 1) := by decide +kernel
theorem dX6_append_17 : decode cX6_append 17 = .ok (.aload_n 0, 1) := by decide +kernel
theorem dX6_append_18 : decode cX6_append 18 = .ok (.getfield 274, 3) := by decide +kernel
theorem dX6_append_21 : decode cX6_append 21 = .ok (.bipush 60, 2) := by decide +kernel
theorem dX6_append_23 : decode cX6_append 23 = .ok (.if_icmp .ne 9, 3) := by decide +kernel
theorem dX6_append_26 : decode cX6_append 26 = .ok (.aload_n 0, 1) := by decide +kernel
theorem dX6_append_27 : decode cX6_append 27 = .ok (.iconst 2, 1) := by decide +kernel
theorem dX6_append_28 : decode cX6_append 28 = .ok (.invokevirtual 45, 3) := by decide +kernel
theorem dX6_append_31 : decode cX6_append 31 = .ok (.ireturn, 1) := by decide +kernel
theorem dX6_append_32 : decode cX6_append 32 = .ok (.aload_n 0, 1) := by decide +kernel
theorem dX6_append_33 : decode cX6_append 33 = .ok (.getfield 22, 3) := by decide +kernel
theorem dX6_append_36 : decode cX6_append 36 = .ok (.aload_n 0, 1) := by decide +kernel
theorem dX6_append_37 : decode cX6_append 37 = .ok (.getfield 274, 3) := by decide +kernel
theorem dX6_append_40 : decode cX6_append 40 = .ok (.iload_n 1, 1) := by decide +kernel
theorem dX6_append_41 : decode cX6_append 41 = .ok (.castore, 1) := by decide +kernel
theorem dX6_append_42 : decode cX6_append 42 = .ok (.aload_n 0, 1) := by decide +kernel
theorem dX6_append_43 : decode cX6_append 43 = .ok (.dup, 1) := by decide +kernel
theorem dX6_append_44 : decode cX6_append 44 = .ok (.getfield 274, 3) := by decide +kernel
theorem dX6_append_47 : decode cX6_append 47 = .ok (.iconst 1, 1) := by decide +kernel
theorem dX6_append_48 : decode cX6_append 48 = .ok (.iadd, 1) := by decide +kernel
theorem dX6_append_49 : decode cX6_append 49 = .ok (.putfield 274, 3) := by decide +kernel
theorem dX6_append_52 : decode cX6_append 52 = .ok (.aload_n 0, 1) := by decide +kernel
theorem dX6_append_53 : decode cX6_append 53 = .ok (.aload_n 0, 1) := by decide +kernel
theorem dX6_append_54 : decode cX6_append 54 = .ok (.getfield 274, 3) := by decide +kernel
theorem dX6_append_57 : decode cX6_append 57 = .ok (.invokevirtual 71, 3) := by decide +kernel
theorem dX6_append_60 : decode cX6_append 60 = .ok (.ireturn, 1) := by decide +kernel
theorem dX6_here_0 : decode cX6_here 0 = .ok (.aload_n 0, 1) := by decide +kernel
theorem dX6_here_1 : decode cX6_here 1 = .ok (.getfield 277, 3) := by decide +kernel
theorem dX6_here_4 : decode cX6_here 4 = .ok (.aload_n 0, 1) := by decide +kernel
theorem dX6_here_5 : decode cX6_here 5 = .ok (.getfield 274, 3) := by decide +kernel
theorem dX6_here_8 : decode cX6_here 8 = .ok (.if_icmp .ge 15, 3) := by decide +kernel
theorem dX6_here_11 : decode cX6_here 11 = .ok (.aload_n 0, 1) := by decide +kernel
theorem dX6_here_12 : decode cX6_here 12 = .ok (.getfield 22, 3) := by decide +kernel
theorem dX6_here_15 : decode cX6_here 15 = .ok (.aload_n 0, 1) := by decide +kernel
theorem dX6_here_16 : decode cX6_here 16 = .ok (.getfield 277, 3) := by decide +kernel
theorem dX6_here_19 : decode cX6_here 19 = .ok (.caload, 1) := by decide +kernel
theorem dX6_here_20 : decode cX6_here 20 = .ok (.goto 4, 3) := by decide +kernel
theorem dX6_here_23 : decode cX6_here 23 = .ok (.iconst (-1), 1) := by decide +kernel
theorem dX6_here_24 : decode cX6_here 24 = .ok (.ireturn, 1) := by decide +kernel
theorem dX6_letterOf_0 : decode cX6_letterOf 0 = .ok (.iload_n 0, 1) := by decide +kernel
theorem dX6_letterOf_1 : decode cX6_letterOf 1 = .ok (.ifCond .ne 9, 3) := by decide +kernel
theorem dX6_letterOf_4 : decode cX6_letterOf 4 = .ok (.ldc_w 280, 3) := by decide +kernel
theorem dX6_letterOf_7 : decode cX6_letterOf 7 = .ok (.goto 39, 3) := by decide +kernel
theorem dX6_letterOf_10 : decode cX6_letterOf 10 = .ok (.iload_n 0, 1) := by decide +kernel
theorem dX6_letterOf_11 : decode cX6_letterOf 11 = .ok (.iconst 1, 1) := by decide +kernel
theorem dX6_letterOf_12 : decode cX6_letterOf 12 = .ok (.if_icmp .ne 9, 3) := by decide +kernel
theorem dX6_letterOf_15 : decode cX6_letterOf 15 = .ok (.ldc_w 282, 3) := by decide +kernel
theorem dX6_letterOf_18 : decode cX6_letterOf 18 = .ok (.goto 28, 3) := by decide +kernel
theorem dX6_letterOf_21 : decode cX6_letterOf 21 = .ok (.iload_n 0, 1) := by decide +kernel
theorem dX6_letterOf_22 : decode cX6_letterOf 22 = .ok (.iconst 2, 1) := by decide +kernel
theorem dX6_letterOf_23 : decode cX6_letterOf 23 = .ok (.if_icmp .ne 9, 3) := by decide +kernel
theorem dX6_letterOf_26 : decode cX6_letterOf 26 = .ok (.ldc_w 284, 3) := by decide +kernel
theorem dX6_letterOf_29 : decode cX6_letterOf 29 = .ok (.goto 17, 3) := by decide +kernel
theorem dX6_letterOf_32 : decode cX6_letterOf 32 = .ok (.iload_n 0, 1) := by decide +kernel
theorem dX6_letterOf_33 : decode cX6_letterOf 33 = .ok (.iconst 3, 1) := by decide +kernel
theorem dX6_letterOf_34 : decode cX6_letterOf 34 = .ok (.if_icmp .ne 9, 3) := by decide +kernel
theorem dX6_letterOf_37 : decode cX6_letterOf 37 = .ok (.ldc_w 286, 3) := by decide +kernel
theorem dX6_letterOf_40 : decode cX6_letterOf 40 = .ok (.goto 6, 3) := by decide +kernel
theorem dX6_letterOf_43 : decode cX6_letterOf 43 = .ok (.ldc_w 288, 3) := by decide +kernel
theorem dX6_letterOf_46 : decode cX6_letterOf 46 = .ok (.astore_n 2, 1) := by decide +kernel
theorem dX6_letterOf_47 : decode cX6_letterOf 47 = .ok (.aload_n 2, 1) := by decide +kernel
theorem dX6_letterOf_48 : decode cX6_letterOf 48 = .ok (.iload_n 1, 1) := by decide +kernel
theorem dX6_letterOf_49 : decode cX6_letterOf 49 = .ok (.invokevirtual 247, 3) := by decide +kernel
theorem dX6_letterOf_52 : decode cX6_letterOf 52 = .ok (.ireturn, 1) := by decide +kernel
theorem dX6_numbersOf_0 : decode cX6_numbersOf 0 = .ok (.iload_n 0, 1) := by decide +kernel
theorem dX6_numbersOf_1 : decode cX6_numbersOf 1 = .ok (.ifCond .ne 7, 3) := by decide +kernel
theorem dX6_numbersOf_4 : decode cX6_numbersOf 4 = .ok (.iconst 4, 1) := by decide +kernel
theorem dX6_numbersOf_5 : decode cX6_numbersOf 5 = .ok (.goto 18, 3) := by decide +kernel
theorem dX6_numbersOf_8 : decode cX6_numbersOf 8 = .ok (.iload_n 0, 1) := by decide +kernel
theorem dX6_numbersOf_9 : decode cX6_numbersOf 9 = .ok (.iconst 1, 1) := by decide +kernel
theorem dX6_numbersOf_10 : decode cX6_numbersOf 10 = .ok (.if_icmp .eq 8, 3) := by decide +kernel
theorem dX6_numbersOf_13 : decode cX6_numbersOf 13 = .ok (.iload_n 0, 1) := by decide +kernel
theorem dX6_numbersOf_14 : decode cX6_numbersOf 14 = .ok (.iconst 3, 1) := by decide +kernel
theorem dX6_numbersOf_15 : decode cX6_numbersOf 15 = .ok (.if_icmp .ne 7, 3) := by decide +kernel
theorem dX6_numbersOf_18 : decode cX6_numbersOf 18 = .ok (.iconst 2, 1) := by decide +kernel
theorem dX6_numbersOf_19 : decode cX6_numbersOf 19 = .ok (.goto 4, 3) := by decide +kernel
theorem dX6_numbersOf_22 : decode cX6_numbersOf 22 = .ok (.iconst 1, 1) := by decide +kernel
theorem dX6_numbersOf_23 : decode cX6_numbersOf 23 = .ok (.ireturn, 1) := by decide +kernel
theorem dX6_readsWord_0 : decode cX6_readsWord 0 = .ok (.bipush 31, 2) := by decide +kernel
theorem dX6_readsWord_2 : decode cX6_readsWord 2 = .ok (.istore_n 1, 1) := by decide +kernel
theorem dX6_readsWord_3 : decode cX6_readsWord 3 = .ok (.iconst 0, 1) := by decide +kernel
theorem dX6_readsWord_4 : decode cX6_readsWord 4 = .ok (.istore_n 2, 1) := by decide +kernel
theorem dX6_readsWord_5 : decode cX6_readsWord 5 = .ok (.iload_n 2, 1) := by decide +kernel
theorem dX6_readsWord_6 : decode cX6_readsWord 6 = .ok (.iconst 4, 1) := by decide +kernel
theorem dX6_readsWord_7 : decode cX6_readsWord 7 = .ok (.if_icmp .ge 78, 3) := by decide +kernel
theorem dX6_readsWord_10 : decode cX6_readsWord 10 = .ok (.iconst 0, 1) := by decide +kernel
theorem dX6_readsWord_11 : decode cX6_readsWord 11 = .ok (.istore_n 3, 1) := by decide +kernel
theorem dX6_readsWord_12 : decode cX6_readsWord 12 = .ok (.iconst 0, 1) := by decide +kernel
theorem dX6_readsWord_13 : decode cX6_readsWord 13 = .ok (.istore 4, 2) := by decide +kernel
theorem dX6_readsWord_15 : decode cX6_readsWord 15 = .ok (.iload 4, 2) := by decide +kernel
theorem dX6_readsWord_17 : decode cX6_readsWord 17 = .ok (.iconst 5, 1) := by decide +kernel
theorem dX6_readsWord_18 : decode cX6_readsWord 18 = .ok (.if_icmp .ge 43, 3) := by decide +kernel
theorem dX6_readsWord_21 : decode cX6_readsWord 21 = .ok (.iload_n 3, 1) := by decide +kernel
theorem dX6_readsWord_22 : decode cX6_readsWord 22 = .ok (.iload_n 1, 1) := by decide +kernel
theorem dX6_readsWord_23 : decode cX6_readsWord 23 = .ok (.iload 4, 2) := by decide +kernel
theorem dX6_readsWord_25 : decode cX6_readsWord 25 = .ok (.ishr, 1) := by decide +kernel
theorem dX6_readsWord_26 : decode cX6_readsWord 26 = .ok (.iconst 1, 1) := by decide +kernel
theorem dX6_readsWord_27 : decode cX6_readsWord 27 = .ok (.iand, 1) := by decide +kernel
theorem dX6_readsWord_28 : decode cX6_readsWord 28 = .ok (.iconst 1, 1) := by decide +kernel
theorem dX6_readsWord_29 : decode cX6_readsWord 29 = .ok (.if_icmp .ne 23, 3) := by decide +kernel
theorem dX6_readsWord_32 : decode cX6_readsWord 32 = .ok (.iload 4, 2) := by decide +kernel
theorem dX6_readsWord_34 : decode cX6_readsWord 34 = .ok (.iload_n 2, 1) := by decide +kernel
theorem dX6_readsWord_35 : decode cX6_readsWord 35 = .ok (.invokestatic 290, 3) := by decide +kernel
theorem dX6_readsWord_38 : decode cX6_readsWord 38 = .ok (.aload_n 0, 1) := by decide +kernel
theorem dX6_readsWord_39 : decode cX6_readsWord 39 = .ok (.invokevirtual 293, 3) := by decide +kernel
theorem dX6_readsWord_42 : decode cX6_readsWord 42 = .ok (.if_icmp .ne 10, 3) := by decide +kernel
theorem dX6_readsWord_45 : decode cX6_readsWord 45 = .ok (.iconst 1, 1) := by decide +kernel
theorem dX6_readsWord_46 : decode cX6_readsWord 46 = .ok (.iload 4, 2) := by decide +kernel
theorem dX6_readsWord_48 : decode cX6_readsWord 48 = .ok (.ishl, 1) := by decide +kernel
theorem dX6_readsWord_49 : decode cX6_readsWord 49 = .ok (.goto 4, 3) := by decide +kernel
theorem dX6_readsWord_52 : decode cX6_readsWord 52 = .ok (.iconst 0, 1) := by decide +kernel
theorem dX6_readsWord_53 : decode cX6_readsWord 53 = .ok (.ior, 1) := by decide +kernel
theorem dX6_readsWord_54 : decode cX6_readsWord 54 = .ok (.istore_n 3, 1) := by decide +kernel
theorem dX6_readsWord_55 : decode cX6_readsWord 55 = .ok (.iinc 4 1, 3) := by decide +kernel
theorem dX6_readsWord_58 : decode cX6_readsWord 58 = .ok (.goto (-43), 3) := by decide +kernel
theorem dX6_readsWord_61 : decode cX6_readsWord 61 = .ok (.iload_n 3, 1) := by decide +kernel
theorem dX6_readsWord_62 : decode cX6_readsWord 62 = .ok (.ifCond .ne 5, 3) := by decide +kernel
theorem dX6_readsWord_65 : decode cX6_readsWord 65 = .ok (.iconst (-1), 1) := by decide +kernel
theorem dX6_readsWord_66 : decode cX6_readsWord 66 = .ok (.ireturn, 1) := by decide +kernel
theorem dX6_readsWord_67 : decode cX6_readsWord 67 = .ok (.iload_n 3, 1) := by decide +kernel
theorem dX6_readsWord_68 : decode cX6_readsWord 68 = .ok (.istore_n 1, 1) := by decide +kernel
theorem dX6_readsWord_69 : decode cX6_readsWord 69 = .ok (.aload_n 0, 1) := by decide +kernel
theorem dX6_readsWord_70 : decode cX6_readsWord 70 = .ok (.dup, 1) := by decide +kernel
theorem dX6_readsWord_71 : decode cX6_readsWord 71 = .ok (.getfield 277, 3) := by decide +kernel
theorem dX6_readsWord_74 : decode cX6_readsWord 74 = .ok (.iconst 1, 1) := by decide +kernel
theorem dX6_readsWord_75 : decode cX6_readsWord 75 = .ok (.iadd, 1) := by decide +kernel
theorem dX6_readsWord_76 : decode cX6_readsWord 76 = .ok (.putfield 277, 3) := by decide +kernel
theorem dX6_readsWord_79 : decode cX6_readsWord 79 = .ok (.iinc 2 1, 3) := by decide +kernel
theorem dX6_readsWord_82 : decode cX6_readsWord 82 = .ok (.goto (-77), 3) := by decide +kernel
theorem dX6_readsWord_85 : decode cX6_readsWord 85 = .ok (.iload_n 1, 1) := by decide +kernel
theorem dX6_readsWord_86 : decode cX6_readsWord 86 = .ok (.iconst 1, 1) := by decide +kernel
theorem dX6_readsWord_87 : decode cX6_readsWord 87 = .ok (.if_icmp .ne 7, 3) := by decide +kernel
theorem dX6_readsWord_90 : decode cX6_readsWord 90 = .ok (.iconst 0, 1) := by decide +kernel
theorem dX6_readsWord_91 : decode cX6_readsWord 91 = .ok (.goto 32, 3) := by decide +kernel
theorem dX6_readsWord_94 : decode cX6_readsWord 94 = .ok (.iload_n 1, 1) := by decide +kernel
theorem dX6_readsWord_95 : decode cX6_readsWord 95 = .ok (.iconst 2, 1) := by decide +kernel
theorem dX6_readsWord_96 : decode cX6_readsWord 96 = .ok (.if_icmp .ne 7, 3) := by decide +kernel
theorem dX6_readsWord_99 : decode cX6_readsWord 99 = .ok (.iconst 1, 1) := by decide +kernel
theorem dX6_readsWord_100 : decode cX6_readsWord 100 = .ok (.goto 23, 3) := by decide +kernel
theorem dX6_readsWord_103 : decode cX6_readsWord 103 = .ok (.iload_n 1, 1) := by decide +kernel
theorem dX6_readsWord_104 : decode cX6_readsWord 104 = .ok (.iconst 4, 1) := by decide +kernel
theorem dX6_readsWord_105 : decode cX6_readsWord 105 = .ok (.if_icmp .ne 7, 3) := by decide +kernel
theorem dX6_readsWord_108 : decode cX6_readsWord 108 = .ok (.iconst 2, 1) := by decide +kernel
theorem dX6_readsWord_109 : decode cX6_readsWord 109 = .ok (.goto 14, 3) := by decide +kernel
theorem dX6_readsWord_112 : decode cX6_readsWord 112 = .ok (.iload_n 1, 1) := by decide +kernel
theorem dX6_readsWord_113 : decode cX6_readsWord 113 = .ok (.bipush 8, 2) := by decide +kernel
theorem dX6_readsWord_115 : decode cX6_readsWord 115 = .ok (.if_icmp .ne 7, 3) := by decide +kernel
theorem dX6_readsWord_118 : decode cX6_readsWord 118 = .ok (.iconst 3, 1) := by decide +kernel
theorem dX6_readsWord_119 : decode cX6_readsWord 119 = .ok (.goto 4, 3) := by decide +kernel
theorem dX6_readsWord_122 : decode cX6_readsWord 122 = .ok (.iconst 4, 1) := by decide +kernel
theorem dX6_readsWord_123 : decode cX6_readsWord 123 = .ok (.ireturn, 1) := by decide +kernel
theorem dX6_isDigit_0 : decode cX6_isDigit 0 = .ok (.aload_n 0, 1) := by decide +kernel
theorem dX6_isDigit_1 : decode cX6_isDigit 1 = .ok (.invokevirtual 293, 3) := by decide +kernel
theorem dX6_isDigit_4 : decode cX6_isDigit 4 = .ok (.bipush 48, 2) := by decide +kernel
theorem dX6_isDigit_6 : decode cX6_isDigit 6 = .ok (.bipush 57, 2) := by decide +kernel
theorem dX6_isDigit_8 : decode cX6_isDigit 8 = .ok (.invokestatic 64, 3) := by decide +kernel
theorem dX6_isDigit_11 : decode cX6_isDigit 11 = .ok (.ireturn, 1) := by decide +kernel
theorem dX6_readsNumber_0 : decode cX6_readsNumber 0 = .ok (.aload_n 0, 1) := by decide +kernel
theorem dX6_readsNumber_1 : decode cX6_readsNumber 1 = .ok (.dup, 1) := by decide +kernel
theorem dX6_readsNumber_2 : decode cX6_readsNumber 2 = .ok (.getfield 296, 3) := by decide +kernel
theorem dX6_readsNumber_5 : decode cX6_readsNumber 5 = .ok (.aload_n 0, 1) := by decide +kernel
theorem dX6_readsNumber_6 : decode cX6_readsNumber 6 = .ok (.invokevirtual 299, 3) := by decide +kernel
theorem dX6_readsNumber_9 : decode cX6_readsNumber 9 = .ok (.ifCond .ne 7, 3) := by decide +kernel
theorem dX6_readsNumber_12 : decode cX6_readsNumber 12 = .ok (.iconst 1, 1) := by decide +kernel
theorem dX6_readsNumber_13 : decode cX6_readsNumber 13 = .ok (.goto 4, 3) := by decide +kernel
theorem dX6_readsNumber_16 : decode cX6_readsNumber 16 = .ok (.iconst 0, 1) := by decide +kernel
theorem dX6_readsNumber_17 : decode cX6_readsNumber 17 = .ok (.ior, 1) := by decide +kernel
theorem dX6_readsNumber_18 : decode cX6_readsNumber 18 = .ok (.putfield 296, 3) := by decide +kernel
theorem dX6_readsNumber_21 : decode cX6_readsNumber 21 = .ok (.iconst 0, 1) := by decide +kernel
theorem dX6_readsNumber_22 : decode cX6_readsNumber 22 = .ok (.istore_n 1, 1) := by decide +kernel
theorem dX6_readsNumber_23 : decode cX6_readsNumber 23 = .ok (.iconst 0, 1) := by decide +kernel
theorem dX6_readsNumber_24 : decode cX6_readsNumber 24 = .ok (.istore_n 2, 1) := by decide +kernel
theorem dX6_readsNumber_25 : decode cX6_readsNumber 25 = .ok (.aload_n 0, 1) := by decide +kernel
theorem dX6_readsNumber_26 : decode cX6_readsNumber 26 = .ok (.getfield 296, 3) := by decide +kernel
theorem dX6_readsNumber_29 : decode cX6_readsNumber 29 = .ok (.ifCond .ne 52, 3) := by decide +kernel
theorem dX6_readsNumber_32 : decode cX6_readsNumber 32 = .ok (.aload_n 0, 1) := by decide +kernel
theorem dX6_readsNumber_33 : decode cX6_readsNumber 33 = .ok (.invokevirtual 299, 3) := by decide +kernel
theorem dX6_readsNumber_36 : decode cX6_readsNumber 36 = .ok (.ifCond .eq 45, 3) := by decide +kernel
theorem dX6_readsNumber_39 : decode cX6_readsNumber 39 = .ok (.iload_n 2, 1) := by decide +kernel
theorem dX6_readsNumber_40 : decode cX6_readsNumber 40 = .ok (.iconst 3, 1) := by decide +kernel
theorem dX6_readsNumber_41 : decode cX6_readsNumber 41 = .ok (.if_icmp .ge 40, 3) := by decide +kernel
theorem dX6_readsNumber_44 : decode cX6_readsNumber 44 = .ok (.iload_n 2, 1) := by decide +kernel
theorem dX6_readsNumber_45 : decode cX6_readsNumber 45 = .ok (.ifCond .eq 7, 3) := by decide +kernel
theorem dX6_readsNumber_48 : decode cX6_readsNumber 48 = .ok (.iload_n 1, 1) := by decide +kernel
theorem dX6_readsNumber_49 : decode cX6_readsNumber 49 = .ok (.ifCond .le 32, 3) := by decide +kernel
theorem dX6_readsNumber_52 : decode cX6_readsNumber 52 = .ok (.bipush 10, 2) := by decide +kernel
theorem dX6_readsNumber_54 : decode cX6_readsNumber 54 = .ok (.iload_n 1, 1) := by decide +kernel
theorem dX6_readsNumber_55 : decode cX6_readsNumber 55 = .ok (.imul, 1) := by decide +kernel
theorem dX6_readsNumber_56 : decode cX6_readsNumber 56 = .ok (.aload_n 0, 1) := by decide +kernel
theorem dX6_readsNumber_57 : decode cX6_readsNumber 57 = .ok (.invokevirtual 293, 3) := by decide +kernel
theorem dX6_readsNumber_60 : decode cX6_readsNumber 60 = .ok (.iadd, 1) := by decide +kernel
theorem dX6_readsNumber_61 : decode cX6_readsNumber 61 = .ok (.bipush 48, 2) := by decide +kernel
theorem dX6_readsNumber_63 : decode cX6_readsNumber 63 = .ok (.isub, 1) := by decide +kernel
theorem dX6_readsNumber_64 : decode cX6_readsNumber 64 = .ok (.istore_n 1, 1) := by decide +kernel
theorem dX6_readsNumber_65 : decode cX6_readsNumber 65 = .ok (.aload_n 0, 1) := by decide +kernel
theorem dX6_readsNumber_66 : decode cX6_readsNumber 66 = .ok (.dup, 1) := by decide +kernel
theorem dX6_readsNumber_67 : decode cX6_readsNumber 67 = .ok (.getfield 277, 3) := by decide +kernel
theorem dX6_readsNumber_70 : decode cX6_readsNumber 70 = .ok (.iconst 1, 1) := by decide +kernel
theorem dX6_readsNumber_71 : decode cX6_readsNumber 71 = .ok (.iadd, 1) := by decide +kernel
theorem dX6_readsNumber_72 : decode cX6_readsNumber 72 = .ok (.putfield 277, 3) := by decide +kernel
theorem dX6_readsNumber_75 : decode cX6_readsNumber 75 = .ok (.iinc 2 1, 3) := by decide +kernel
theorem dX6_readsNumber_78 : decode cX6_readsNumber 78 = .ok (.goto (-53), 3) := by decide +kernel
theorem dX6_readsNumber_81 : decode cX6_readsNumber 81 = .ok (.iload_n 1, 1) := by decide +kernel
theorem dX6_readsNumber_82 : decode cX6_readsNumber 82 = .ok (.ireturn, 1) := by decide +kernel
theorem dX6_readsCommand_0 : decode cX6_readsCommand 0 = .ok (.aload_n 0, 1) := by decide +kernel
theorem dX6_readsCommand_1 : decode cX6_readsCommand 1 = .ok (.invokevirtual 303, 3) := by decide +kernel
theorem dX6_readsCommand_4 : decode cX6_readsCommand 4 = .ok (.istore_n 2, 1) := by decide +kernel
theorem dX6_readsCommand_5 : decode cX6_readsCommand 5 = .ok (.aload_n 0, 1) := by decide +kernel
theorem dX6_readsCommand_6 : decode cX6_readsCommand 6 = .ok (.iload_n 2, 1) := by decide +kernel
theorem dX6_readsCommand_7 : decode cX6_readsCommand 7 = .ok (.iconst (-1), 1) := by decide +kernel
theorem dX6_readsCommand_8 : decode cX6_readsCommand 8 = .ok (.if_icmp .ne 7, 3) := by decide +kernel
theorem dX6_readsCommand_11 : decode cX6_readsCommand 11 = .ok (.iconst 1, 1) := by decide +kernel
theorem dX6_readsCommand_12 : decode cX6_readsCommand 12 = .ok (.goto 4, 3) := by decide +kernel
theorem dX6_readsCommand_15 : decode cX6_readsCommand 15 = .ok (.iconst 0, 1) := by decide +kernel
theorem dX6_readsCommand_16 : decode cX6_readsCommand 16 = .ok (.putfield 296, 3) := by decide +kernel
theorem dX6_readsCommand_19 : decode cX6_readsCommand 19 = .ok (.aload_n 0, 1) := by decide +kernel
theorem dX6_readsCommand_20 : decode cX6_readsCommand 20 = .ok (.getfield 33, 3) := by decide +kernel
theorem dX6_readsCommand_23 : decode cX6_readsCommand 23 = .ok (.iload_n 1, 1) := by decide +kernel
theorem dX6_readsCommand_24 : decode cX6_readsCommand 24 = .ok (.iload_n 2, 1) := by decide +kernel
theorem dX6_readsCommand_25 : decode cX6_readsCommand 25 = .ok (.iastore, 1) := by decide +kernel
theorem dX6_readsCommand_26 : decode cX6_readsCommand 26 = .ok (.iconst 0, 1) := by decide +kernel
theorem dX6_readsCommand_27 : decode cX6_readsCommand 27 = .ok (.istore_n 3, 1) := by decide +kernel
theorem dX6_readsCommand_28 : decode cX6_readsCommand 28 = .ok (.aload_n 0, 1) := by decide +kernel
theorem dX6_readsCommand_29 : decode cX6_readsCommand 29 = .ok (.getfield 296, 3) := by decide +kernel
theorem dX6_readsCommand_32 : decode cX6_readsCommand 32 = .ok (.ifCond .ne 81, 3) := by decide +kernel
theorem dX6_readsCommand_35 : decode cX6_readsCommand 35 = .ok (.iload_n 3, 1) := by decide +kernel
theorem dX6_readsCommand_36 : decode cX6_readsCommand 36 = .ok (.iload_n 2, 1) := by decide +kernel
theorem dX6_readsCommand_37 : decode cX6_readsCommand 37 = .ok (.invokestatic 306, 3) := by decide +kernel
theorem dX6_readsCommand_40 : decode cX6_readsCommand 40 = .ok (.if_icmp .ge 73, 3) := by decide +kernel
theorem dX6_readsCommand_43 : decode cX6_readsCommand 43 = .ok (.aload_n 0, 1) := by decide +kernel
theorem dX6_readsCommand_44 : decode cX6_readsCommand 44 = .ok (.aload_n 0, 1) := by decide +kernel
theorem dX6_readsCommand_45 : decode cX6_readsCommand 45 = .ok (.invokevirtual 293, 3) := by decide +kernel
theorem dX6_readsCommand_48 : decode cX6_readsCommand 48 = .ok (.bipush 32, 2) := by decide +kernel
theorem dX6_readsCommand_50 : decode cX6_readsCommand 50 = .ok (.if_icmp .eq 7, 3) := by decide +kernel
theorem dX6_readsCommand_53 : decode cX6_readsCommand 53 = .ok (.iconst 1, 1) := by decide +kernel
theorem dX6_readsCommand_54 : decode cX6_readsCommand 54 = .ok (.goto 4, 3) := by decide +kernel
theorem dX6_readsCommand_57 : decode cX6_readsCommand 57 = .ok (.iconst 0, 1) := by decide +kernel
theorem dX6_readsCommand_58 : decode cX6_readsCommand 58 = .ok (.putfield 296, 3) := by decide +kernel
theorem dX6_readsCommand_61 : decode cX6_readsCommand 61 = .ok (.aload_n 0, 1) := by decide +kernel
theorem dX6_readsCommand_62 : decode cX6_readsCommand 62 = .ok (.dup, 1) := by decide +kernel
theorem dX6_readsCommand_63 : decode cX6_readsCommand 63 = .ok (.getfield 277, 3) := by decide +kernel
theorem dX6_readsCommand_66 : decode cX6_readsCommand 66 = .ok (.aload_n 0, 1) := by decide +kernel
theorem dX6_readsCommand_67 : decode cX6_readsCommand 67 = .ok (.getfield 296, 3) := by decide +kernel
theorem dX6_readsCommand_70 : decode cX6_readsCommand 70 = .ok (.ifCond .eq 7, 3) := by decide +kernel
theorem dX6_readsCommand_73 : decode cX6_readsCommand 73 = .ok (.iconst 0, 1) := by decide +kernel
theorem dX6_readsCommand_74 : decode cX6_readsCommand 74 = .ok (.goto 4, 3) := by decide +kernel
theorem dX6_readsCommand_77 : decode cX6_readsCommand 77 = .ok (.iconst 1, 1) := by decide +kernel
theorem dX6_readsCommand_78 : decode cX6_readsCommand 78 = .ok (.iadd, 1) := by decide +kernel
theorem dX6_readsCommand_79 : decode cX6_readsCommand 79 = .ok (.putfield 277, 3) := by decide +kernel
theorem dX6_readsCommand_82 : decode cX6_readsCommand 82 = .ok (.aload_n 0, 1) := by decide +kernel
theorem dX6_readsCommand_83 : decode cX6_readsCommand 83 = .ok (.getfield 33, 3) := by decide +kernel
theorem dX6_readsCommand_86 : decode cX6_readsCommand 86 = .ok (.iload_n 1, 1) := by decide +kernel
theorem dX6_readsCommand_87 : decode cX6_readsCommand 87 = .ok (.iconst 1, 1) := by decide +kernel
theorem dX6_readsCommand_88 : decode cX6_readsCommand 88 = .ok (.iadd, 1) := by decide +kernel
theorem dX6_readsCommand_89 : decode cX6_readsCommand 89 = .ok (.iload_n 3, 1) := by decide +kernel
theorem dX6_readsCommand_90 : decode cX6_readsCommand 90 = .ok (.iadd, 1) := by decide +kernel
theorem dX6_readsCommand_91 : decode cX6_readsCommand 91 = .ok (.aload_n 0, 1) := by decide +kernel
theorem dX6_readsCommand_92 : decode cX6_readsCommand 92 = .ok (.getfield 296, 3) := by decide +kernel
theorem dX6_readsCommand_95 : decode cX6_readsCommand 95 = .ok (.ifCond .eq 7, 3) := by decide +kernel
theorem dX6_readsCommand_98 : decode cX6_readsCommand 98 = .ok (.iconst 0, 1) := by decide +kernel
theorem dX6_readsCommand_99 : decode cX6_readsCommand 99 = .ok (.goto 7, 3) := by decide +kernel
theorem dX6_readsCommand_102 : decode cX6_readsCommand 102 = .ok (.aload_n 0, 1) := by decide +kernel
theorem dX6_readsCommand_103 : decode cX6_readsCommand 103 = .ok (.invokevirtual 309, 3) := by decide +kernel
theorem dX6_readsCommand_106 : decode cX6_readsCommand 106 = .ok (.iastore, 1) := by decide +kernel
theorem dX6_readsCommand_107 : decode cX6_readsCommand 107 = .ok (.iinc 3 1, 3) := by decide +kernel
theorem dX6_readsCommand_110 : decode cX6_readsCommand 110 = .ok (.goto (-82), 3) := by decide +kernel
theorem dX6_readsCommand_113 : decode cX6_readsCommand 113 = .ok (.return_, 1) := by decide +kernel
theorem dX6_does_0 : decode cX6_does 0 = .ok (.aload_n 0, 1) := by decide +kernel
theorem dX6_does_1 : decode cX6_does 1 = .ok (.getfield 33, 3) := by decide +kernel
theorem dX6_does_4 : decode cX6_does 4 = .ok (.iload_n 1, 1) := by decide +kernel
theorem dX6_does_5 : decode cX6_does 5 = .ok (.iconst 1, 1) := by decide +kernel
theorem dX6_does_6 : decode cX6_does 6 = .ok (.iadd, 1) := by decide +kernel
theorem dX6_does_7 : decode cX6_does 7 = .ok (.iaload, 1) := by decide +kernel
theorem dX6_does_8 : decode cX6_does 8 = .ok (.istore_n 2, 1) := by decide +kernel
theorem dX6_does_9 : decode cX6_does 9 = .ok (.aload_n 0, 1) := by decide +kernel
theorem dX6_does_10 : decode cX6_does 10 = .ok (.getfield 33, 3) := by decide +kernel
theorem dX6_does_13 : decode cX6_does 13 = .ok (.iload_n 1, 1) := by decide +kernel
theorem dX6_does_14 : decode cX6_does 14 = .ok (.iconst 2, 1) := by decide +kernel
theorem dX6_does_15 : decode cX6_does 15 = .ok (.iadd, 1) := by decide +kernel
theorem dX6_does_16 : decode cX6_does 16 = .ok (.iaload, 1) := by decide +kernel
theorem dX6_does_17 : decode cX6_does 17 = .ok (.istore_n 3, 1) := by decide +kernel
theorem dX6_does_18 : decode cX6_does 18 = .ok (.iconst 0, 1) := by decide +kernel
theorem dX6_does_19 : decode cX6_does 19 = .ok (.istore 4, 2) := by decide +kernel
theorem dX6_does_21 : decode cX6_does 21 = .ok (.aload_n 0, 1) := by decide +kernel
theorem dX6_does_22 : decode cX6_does 22 = .ok (.getfield 33, 3) := by decide +kernel
theorem dX6_does_25 : decode cX6_does 25 = .ok (.iload_n 1, 1) := by decide +kernel
theorem dX6_does_26 : decode cX6_does 26 = .ok (.iaload, 1) := by decide +kernel
theorem dX6_does_27 : decode cX6_does 27 = .ok (.tableswitch 88 0 3 #[29, 56, 67, 77], 29) := by decide +kernel
theorem dX6_does_56 : decode cX6_does 56 = .ok (.aload_n 0, 1) := by decide +kernel
theorem dX6_does_57 : decode cX6_does 57 = .ok (.iload_n 2, 1) := by decide +kernel
theorem dX6_does_58 : decode cX6_does 58 = .ok (.iload_n 3, 1) := by decide +kernel
theorem dX6_does_59 : decode cX6_does 59 = .ok (.aload_n 0, 1) := by decide +kernel
theorem dX6_does_60 : decode cX6_does 60 = .ok (.getfield 33, 3) := by decide +kernel
theorem dX6_does_63 : decode cX6_does 63 = .ok (.iload_n 1, 1) := by decide +kernel
theorem dX6_does_64 : decode cX6_does 64 = .ok (.iconst 3, 1) := by decide +kernel
theorem dX6_does_65 : decode cX6_does 65 = .ok (.iadd, 1) := by decide +kernel
theorem dX6_does_66 : decode cX6_does 66 = .ok (.iaload, 1) := by decide +kernel
theorem dX6_does_67 : decode cX6_does 67 = .ok (.aload_n 0, 1) := by decide +kernel
theorem dX6_does_68 : decode cX6_does 68 = .ok (.getfield 33, 3) := by decide +kernel
theorem dX6_does_71 : decode cX6_does 71 = .ok (.iload_n 1, 1) := by decide +kernel
theorem dX6_does_72 : decode cX6_does 72 = .ok (.iconst 4, 1) := by decide +kernel
theorem dX6_does_73 : decode cX6_does 73 = .ok (.iadd, 1) := by decide +kernel
theorem dX6_does_74 : decode cX6_does 74 = .ok (.iaload, 1) := by decide +kernel
theorem dX6_does_75 : decode cX6_does 75 = .ok (.invokevirtual 312, 3) := by decide +kernel
theorem dX6_does_78 : decode cX6_does 78 = .ok (.istore 4, 2) := by decide +kernel
theorem dX6_does_80 : decode cX6_does 80 = .ok (.goto 42, 3) := by decide +kernel
theorem dX6_does_83 : decode cX6_does 83 = .ok (.aload_n 0, 1) := by decide +kernel
theorem dX6_does_84 : decode cX6_does 84 = .ok (.iload_n 2, 1) := by decide +kernel
theorem dX6_does_85 : decode cX6_does 85 = .ok (.iload_n 3, 1) := by decide +kernel
theorem dX6_does_86 : decode cX6_does 86 = .ok (.invokevirtual 314, 3) := by decide +kernel
theorem dX6_does_89 : decode cX6_does 89 = .ok (.istore 4, 2) := by decide +kernel
theorem dX6_does_91 : decode cX6_does 91 = .ok (.goto 31, 3) := by decide +kernel
theorem dX6_does_94 : decode cX6_does 94 = .ok (.aload_n 0, 1) := by decide +kernel
theorem dX6_does_95 : decode cX6_does 95 = .ok (.iload_n 2, 1) := by decide +kernel
theorem dX6_does_96 : decode cX6_does 96 = .ok (.invokevirtual 316, 3) := by decide +kernel
theorem dX6_does_99 : decode cX6_does 99 = .ok (.istore 4, 2) := by decide +kernel
theorem dX6_does_101 : decode cX6_does 101 = .ok (.goto 21, 3) := by decide +kernel
theorem dX6_does_104 : decode cX6_does 104 = .ok (.aload_n 0, 1) := by decide +kernel
theorem dX6_does_105 : decode cX6_does 105 = .ok (.iload_n 2, 1) := by decide +kernel
theorem dX6_does_106 : decode cX6_does 106 = .ok (.iload_n 3, 1) := by decide +kernel
theorem dX6_does_107 : decode cX6_does 107 = .ok (.invokevirtual 319, 3) := by decide +kernel
theorem dX6_does_110 : decode cX6_does 110 = .ok (.istore 4, 2) := by decide +kernel
theorem dX6_does_112 : decode cX6_does 112 = .ok (.goto 10, 3) := by decide +kernel
theorem dX6_does_115 : decode cX6_does 115 = .ok (.aload_n 0, 1) := by decide +kernel
theorem dX6_does_116 : decode cX6_does 116 = .ok (.iload_n 2, 1) := by decide +kernel
theorem dX6_does_117 : decode cX6_does 117 = .ok (.invokevirtual 321, 3) := by decide +kernel
theorem dX6_does_120 : decode cX6_does 120 = .ok (.istore 4, 2) := by decide +kernel
theorem dX6_does_122 : decode cX6_does 122 = .ok (.aload_n 0, 1) := by decide +kernel
theorem dX6_does_123 : decode cX6_does 123 = .ok (.getfield 36, 3) := by decide +kernel
theorem dX6_does_126 : decode cX6_does 126 = .ok (.ifCond .ne 7, 3) := by decide +kernel
theorem dX6_does_129 : decode cX6_does 129 = .ok (.iconst 1, 1) := by decide +kernel
theorem dX6_does_130 : decode cX6_does 130 = .ok (.goto 4, 3) := by decide +kernel
theorem dX6_does_133 : decode cX6_does 133 = .ok (.iconst 0, 1) := by decide +kernel
theorem dX6_does_134 : decode cX6_does 134 = .ok (.ireturn, 1) := by decide +kernel
theorem dX6_perform_0 : decode cX6_perform 0 = .ok (.aload_n 0, 1) := by decide +kernel
theorem dX6_perform_1 : decode cX6_perform 1 = .ok (.iconst 0, 1) := by decide +kernel
theorem dX6_perform_2 : decode cX6_perform 2 = .ok (.putfield 277, 3) := by decide +kernel
theorem dX6_perform_5 : decode cX6_perform 5 = .ok (.aload_n 0, 1) := by decide +kernel
theorem dX6_perform_6 : decode cX6_perform 6 = .ok (.iconst 0, 1) := by decide +kernel
theorem dX6_perform_7 : decode cX6_perform 7 = .ok (.invokevirtual 324, 3) := by decide +kernel
theorem dX6_perform_10 : decode cX6_perform 10 = .ok (.iconst 1, 1) := by decide +kernel
theorem dX6_perform_11 : decode cX6_perform 11 = .ok (.istore_n 1, 1) := by decide +kernel
theorem dX6_perform_12 : decode cX6_perform 12 = .ok (.aload_n 0, 1) := by decide +kernel
theorem dX6_perform_13 : decode cX6_perform 13 = .ok (.getfield 296, 3) := by decide +kernel
theorem dX6_perform_16 : decode cX6_perform 16 = .ok (.ifCond .ne 35, 3) := by decide +kernel
theorem dX6_perform_19 : decode cX6_perform 19 = .ok (.aload_n 0, 1) := by decide +kernel
theorem dX6_perform_20 : decode cX6_perform 20 = .ok (.invokevirtual 293, 3) := by decide +kernel
theorem dX6_perform_23 : decode cX6_perform 23 = .ok (.bipush 59, 2) := by decide +kernel
theorem dX6_perform_25 : decode cX6_perform 25 = .ok (.if_icmp .ne 26, 3) := by decide +kernel
theorem dX6_perform_28 : decode cX6_perform 28 = .ok (.aload_n 0, 1) := by decide +kernel
theorem dX6_perform_29 : decode cX6_perform 29 = .ok (.dup, 1) := by decide +kernel
theorem dX6_perform_30 : decode cX6_perform 30 = .ok (.getfield 277, 3) := by decide +kernel
theorem dX6_perform_33 : decode cX6_perform 33 = .ok (.iconst 1, 1) := by decide +kernel
theorem dX6_perform_34 : decode cX6_perform 34 = .ok (.iadd, 1) := by decide +kernel
theorem dX6_perform_35 : decode cX6_perform 35 = .ok (.putfield 277, 3) := by decide +kernel
theorem dX6_perform_38 : decode cX6_perform 38 = .ok (.aload_n 0, 1) := by decide +kernel
theorem dX6_perform_39 : decode cX6_perform 39 = .ok (.iconst 5, 1) := by decide +kernel
theorem dX6_perform_40 : decode cX6_perform 40 = .ok (.iload_n 1, 1) := by decide +kernel
theorem dX6_perform_41 : decode cX6_perform 41 = .ok (.imul, 1) := by decide +kernel
theorem dX6_perform_42 : decode cX6_perform 42 = .ok (.invokevirtual 324, 3) := by decide +kernel
theorem dX6_perform_45 : decode cX6_perform 45 = .ok (.iinc 1 1, 3) := by decide +kernel
theorem dX6_perform_48 : decode cX6_perform 48 = .ok (.goto (-36), 3) := by decide +kernel
theorem dX6_perform_51 : decode cX6_perform 51 = .ok (.aload_n 0, 1) := by decide +kernel
theorem dX6_perform_52 : decode cX6_perform 52 = .ok (.dup, 1) := by decide +kernel
theorem dX6_perform_53 : decode cX6_perform 53 = .ok (.getfield 296, 3) := by decide +kernel
theorem dX6_perform_56 : decode cX6_perform 56 = .ok (.aload_n 0, 1) := by decide +kernel
theorem dX6_perform_57 : decode cX6_perform 57 = .ok (.getfield 277, 3) := by decide +kernel
theorem dX6_perform_60 : decode cX6_perform 60 = .ok (.aload_n 0, 1) := by decide +kernel
theorem dX6_perform_61 : decode cX6_perform 61 = .ok (.getfield 274, 3) := by decide +kernel
theorem dX6_perform_64 : decode cX6_perform 64 = .ok (.if_icmp .ge 7, 3) := by decide +kernel
theorem dX6_perform_67 : decode cX6_perform 67 = .ok (.iconst 1, 1) := by decide +kernel
theorem dX6_perform_68 : decode cX6_perform 68 = .ok (.goto 4, 3) := by decide +kernel
theorem dX6_perform_71 : decode cX6_perform 71 = .ok (.iconst 0, 1) := by decide +kernel
theorem dX6_perform_72 : decode cX6_perform 72 = .ok (.ior, 1) := by decide +kernel
theorem dX6_perform_73 : decode cX6_perform 73 = .ok (.putfield 296, 3) := by decide +kernel
theorem dX6_perform_76 : decode cX6_perform 76 = .ok (.aload_n 0, 1) := by decide +kernel
theorem dX6_perform_77 : decode cX6_perform 77 = .ok (.iconst 0, 1) := by decide +kernel
theorem dX6_perform_78 : decode cX6_perform 78 = .ok (.putfield 274, 3) := by decide +kernel
theorem dX6_perform_81 : decode cX6_perform 81 = .ok (.aload_n 0, 1) := by decide +kernel
theorem dX6_perform_82 : decode cX6_perform 82 = .ok (.getfield 296, 3) := by decide +kernel
theorem dX6_perform_85 : decode cX6_perform 85 = .ok (.ifCond .eq 17, 3) := by decide +kernel
theorem dX6_perform_88 : decode cX6_perform 88 = .ok (.aload_n 0, 1) := by decide +kernel
theorem dX6_perform_89 : decode cX6_perform 89 = .ok (.aload_n 0, 1) := by decide +kernel
theorem dX6_perform_90 : decode cX6_perform 90 = .ok (.getfield 277, 3) := by decide +kernel
theorem dX6_perform_93 : decode cX6_perform 93 = .ok (.putfield 26, 3) := by decide +kernel
theorem dX6_perform_96 : decode cX6_perform 96 = .ok (.aload_n 0, 1) := by decide +kernel
theorem dX6_perform_97 : decode cX6_perform 97 = .ok (.iconst 1, 1) := by decide +kernel
theorem dX6_perform_98 : decode cX6_perform 98 = .ok (.invokevirtual 45, 3) := by decide +kernel
theorem dX6_perform_101 : decode cX6_perform 101 = .ok (.ireturn, 1) := by decide +kernel
theorem dX6_perform_102 : decode cX6_perform 102 = .ok (.aload_n 0, 1) := by decide +kernel
theorem dX6_perform_103 : decode cX6_perform 103 = .ok (.getfield 9, 3) := by decide +kernel
theorem dX6_perform_106 : decode cX6_perform 106 = .ok (.iconst 0, 1) := by decide +kernel
theorem dX6_perform_107 : decode cX6_perform 107 = .ok (.aload_n 0, 1) := by decide +kernel
theorem dX6_perform_108 : decode cX6_perform 108 = .ok (.getfield 19, 3) := by decide +kernel
theorem dX6_perform_111 : decode cX6_perform 111 = .ok (.iconst 0, 1) := by decide +kernel
theorem dX6_perform_112 : decode cX6_perform 112 = .ok (.invokestatic 52, 3) := by decide +kernel
theorem dX6_perform_115 : decode cX6_perform 115 = .ok (.aload_n 0, 1) := by decide +kernel
theorem dX6_perform_116 : decode cX6_perform 116 = .ok (.iconst 1, 1) := by decide +kernel
theorem dX6_perform_117 : decode cX6_perform 117 = .ok (.putfield 56, 3) := by decide +kernel
theorem dX6_perform_120 : decode cX6_perform 120 = .ok (.iconst 1, 1) := by decide +kernel
theorem dX6_perform_121 : decode cX6_perform 121 = .ok (.istore_n 2, 1) := by decide +kernel
theorem dX6_perform_122 : decode cX6_perform 122 = .ok (.iconst 0, 1) := by decide +kernel
theorem dX6_perform_123 : decode cX6_perform 123 = .ok (.istore_n 3, 1) := by decide +kernel
theorem dX6_perform_124 : decode cX6_perform 124 = .ok (.iload_n 3, 1) := by decide +kernel
theorem dX6_perform_125 : decode cX6_perform 125 = .ok (.iload_n 1, 1) := by decide +kernel
theorem dX6_perform_126 : decode cX6_perform 126 = .ok (.if_icmp .ge 21, 3) := by decide +kernel
theorem dX6_perform_129 : decode cX6_perform 129 = .ok (.iload_n 2, 1) := by decide +kernel
theorem dX6_perform_130 : decode cX6_perform 130 = .ok (.ifCond .eq 17, 3) := by decide +kernel
theorem dX6_perform_133 : decode cX6_perform 133 = .ok (.aload_n 0, 1) := by decide +kernel
theorem dX6_perform_134 : decode cX6_perform 134 = .ok (.iconst 5, 1) := by decide +kernel
theorem dX6_perform_135 : decode cX6_perform 135 = .ok (.iload_n 3, 1) := by decide +kernel
theorem dX6_perform_136 : decode cX6_perform 136 = .ok (.imul, 1) := by decide +kernel
theorem dX6_perform_137 : decode cX6_perform 137 = .ok (.invokevirtual 327, 3) := by decide +kernel
theorem dX6_perform_140 : decode cX6_perform 140 = .ok (.istore_n 2, 1) := by decide +kernel
theorem dX6_perform_141 : decode cX6_perform 141 = .ok (.iinc 3 1, 3) := by decide +kernel
theorem dX6_perform_144 : decode cX6_perform 144 = .ok (.goto (-20), 3) := by decide +kernel
theorem dX6_perform_147 : decode cX6_perform 147 = .ok (.aload_n 0, 1) := by decide +kernel
theorem dX6_perform_148 : decode cX6_perform 148 = .ok (.iconst 0, 1) := by decide +kernel
theorem dX6_perform_149 : decode cX6_perform 149 = .ok (.putfield 56, 3) := by decide +kernel
theorem dX6_perform_152 : decode cX6_perform 152 = .ok (.iload_n 2, 1) := by decide +kernel
theorem dX6_perform_153 : decode cX6_perform 153 = .ok (.ifCond .ne 22, 3) := by decide +kernel
theorem dX6_perform_156 : decode cX6_perform 156 = .ok (.aload_n 0, 1) := by decide +kernel
theorem dX6_perform_157 : decode cX6_perform 157 = .ok (.getfield 19, 3) := by decide +kernel
theorem dX6_perform_160 : decode cX6_perform 160 = .ok (.iconst 0, 1) := by decide +kernel
theorem dX6_perform_161 : decode cX6_perform 161 = .ok (.aload_n 0, 1) := by decide +kernel
theorem dX6_perform_162 : decode cX6_perform 162 = .ok (.getfield 9, 3) := by decide +kernel
theorem dX6_perform_165 : decode cX6_perform 165 = .ok (.iconst 0, 1) := by decide +kernel
theorem dX6_perform_166 : decode cX6_perform 166 = .ok (.invokestatic 52, 3) := by decide +kernel
theorem dX6_perform_169 : decode cX6_perform 169 = .ok (.aload_n 0, 1) := by decide +kernel
theorem dX6_perform_170 : decode cX6_perform 170 = .ok (.iconst 2, 1) := by decide +kernel
theorem dX6_perform_171 : decode cX6_perform 171 = .ok (.invokevirtual 45, 3) := by decide +kernel
theorem dX6_perform_174 : decode cX6_perform 174 = .ok (.ireturn, 1) := by decide +kernel
theorem dX6_perform_175 : decode cX6_perform 175 = .ok (.aload_n 0, 1) := by decide +kernel
theorem dX6_perform_176 : decode cX6_perform 176 = .ok (.aload_n 0, 1) := by decide +kernel
theorem dX6_perform_177 : decode cX6_perform 177 = .ok (.getfield 19, 3) := by decide +kernel
theorem dX6_perform_180 : decode cX6_perform 180 = .ok (.invokevirtual 60, 3) := by decide +kernel
theorem dX6_perform_183 : decode cX6_perform 183 = .ok (.aload_n 0, 1) := by decide +kernel
theorem dX6_perform_184 : decode cX6_perform 184 = .ok (.iload_n 1, 1) := by decide +kernel
theorem dX6_perform_185 : decode cX6_perform 185 = .ok (.invokevirtual 71, 3) := by decide +kernel
theorem dX6_perform_188 : decode cX6_perform 188 = .ok (.ireturn, 1) := by decide +kernel
theorem dX6_errorPosition_0 : decode cX6_errorPosition 0 = .ok (.aload_n 0, 1) := by decide +kernel
theorem dX6_errorPosition_1 : decode cX6_errorPosition 1 = .ok (.getfield 26, 3) := by decide +kernel
theorem dX6_errorPosition_4 : decode cX6_errorPosition 4 = .ok (.iconst (-1), 1) := by decide +kernel
theorem dX6_errorPosition_5 : decode cX6_errorPosition 5 = .ok (.if_icmp .ne 11, 3) := by decide +kernel
theorem dX6_errorPosition_8 : decode cX6_errorPosition 8 = .ok (.aload_n 0, 1) := by decide +kernel
theorem dX6_errorPosition_9 : decode cX6_errorPosition 9 = .ok (.iconst 1, 1) := by decide +kernel
theorem dX6_errorPosition_10 : decode cX6_errorPosition 10 = .ok (.invokevirtual 45, 3) := by decide +kernel
theorem dX6_errorPosition_13 : decode cX6_errorPosition 13 = .ok (.goto 11, 3) := by decide +kernel
theorem dX6_errorPosition_16 : decode cX6_errorPosition 16 = .ok (.aload_n 0, 1) := by decide +kernel
theorem dX6_errorPosition_17 : decode cX6_errorPosition 17 = .ok (.aload_n 0, 1) := by decide +kernel
theorem dX6_errorPosition_18 : decode cX6_errorPosition 18 = .ok (.getfield 26, 3) := by decide +kernel
theorem dX6_errorPosition_21 : decode cX6_errorPosition 21 = .ok (.invokevirtual 71, 3) := by decide +kernel
theorem dX6_errorPosition_24 : decode cX6_errorPosition 24 = .ok (.ireturn, 1) := by decide +kernel
theorem dX6_undo_0 : decode cX6_undo 0 = .ok (.aload_n 0, 1) := by decide +kernel
theorem dX6_undo_1 : decode cX6_undo 1 = .ok (.getfield 49, 3) := by decide +kernel
theorem dX6_undo_4 : decode cX6_undo 4 = .ok (.ifCond .ne 9, 3) := by decide +kernel
theorem dX6_undo_7 : decode cX6_undo 7 = .ok (.aload_n 0, 1) := by decide +kernel
theorem dX6_undo_8 : decode cX6_undo 8 = .ok (.iconst 1, 1) := by decide +kernel
theorem dX6_undo_9 : decode cX6_undo 9 = .ok (.invokevirtual 45, 3) := by decide +kernel
theorem dX6_undo_12 : decode cX6_undo 12 = .ok (.ireturn, 1) := by decide +kernel
theorem dX6_undo_13 : decode cX6_undo 13 = .ok (.aload_n 0, 1) := by decide +kernel
theorem dX6_undo_14 : decode cX6_undo 14 = .ok (.dup, 1) := by decide +kernel
theorem dX6_undo_15 : decode cX6_undo 15 = .ok (.getfield 49, 3) := by decide +kernel
theorem dX6_undo_18 : decode cX6_undo 18 = .ok (.iconst 1, 1) := by decide +kernel
theorem dX6_undo_19 : decode cX6_undo 19 = .ok (.isub, 1) := by decide +kernel
theorem dX6_undo_20 : decode cX6_undo 20 = .ok (.putfield 49, 3) := by decide +kernel
theorem dX6_undo_23 : decode cX6_undo 23 = .ok (.aload_n 0, 1) := by decide +kernel
theorem dX6_undo_24 : decode cX6_undo 24 = .ok (.getfield 13, 3) := by decide +kernel
theorem dX6_undo_27 : decode cX6_undo 27 = .ok (.aload_n 0, 1) := by decide +kernel
theorem dX6_undo_28 : decode cX6_undo 28 = .ok (.getfield 49, 3) := by decide +kernel
theorem dX6_undo_31 : decode cX6_undo 31 = .ok (.sipush 580, 3) := by decide +kernel
theorem dX6_undo_34 : decode cX6_undo 34 = .ok (.imul, 1) := by decide +kernel
theorem dX6_undo_35 : decode cX6_undo 35 = .ok (.aload_n 0, 1) := by decide +kernel
theorem dX6_undo_36 : decode cX6_undo 36 = .ok (.getfield 9, 3) := by decide +kernel
theorem dX6_undo_39 : decode cX6_undo 39 = .ok (.iconst 0, 1) := by decide +kernel
theorem dX6_undo_40 : decode cX6_undo 40 = .ok (.invokestatic 52, 3) := by decide +kernel
theorem dX6_undo_43 : decode cX6_undo 43 = .ok (.aload_n 0, 1) := by decide +kernel
theorem dX6_undo_44 : decode cX6_undo 44 = .ok (.aload_n 0, 1) := by decide +kernel
theorem dX6_undo_45 : decode cX6_undo 45 = .ok (.getfield 49, 3) := by decide +kernel
theorem dX6_undo_48 : decode cX6_undo 48 = .ok (.invokevirtual 71, 3) := by decide +kernel
theorem dX6_undo_51 : decode cX6_undo 51 = .ok (.ireturn, 1) := by decide +kernel
theorem dX6_save_0 : decode cX6_save 0 = .ok (.aload_n 0, 1) := by decide +kernel
theorem dX6_save_1 : decode cX6_save 1 = .ok (.getfield 9, 3) := by decide +kernel
theorem dX6_save_4 : decode cX6_save 4 = .ok (.iconst 0, 1) := by decide +kernel
theorem dX6_save_5 : decode cX6_save 5 = .ok (.aload_n 0, 1) := by decide +kernel
theorem dX6_save_6 : decode cX6_save 6 = .ok (.getfield 16, 3) := by decide +kernel
theorem dX6_save_9 : decode cX6_save 9 = .ok (.iconst 0, 1) := by decide +kernel
theorem dX6_save_10 : decode cX6_save 10 = .ok (.invokestatic 52, 3) := by decide +kernel
theorem dX6_save_13 : decode cX6_save 13 = .ok (.aload_n 0, 1) := by decide +kernel
theorem dX6_save_14 : decode cX6_save 14 = .ok (.iconst 1, 1) := by decide +kernel
theorem dX6_save_15 : decode cX6_save 15 = .ok (.putfield 330, 3) := by decide +kernel
theorem dX6_save_18 : decode cX6_save 18 = .ok (.aload_n 0, 1) := by decide +kernel
theorem dX6_save_19 : decode cX6_save 19 = .ok (.aload_n 0, 1) := by decide +kernel
theorem dX6_save_20 : decode cX6_save 20 = .ok (.getfield 9, 3) := by decide +kernel
theorem dX6_save_23 : decode cX6_save 23 = .ok (.iconst 4, 1) := by decide +kernel
theorem dX6_save_24 : decode cX6_save 24 = .ok (.iaload, 1) := by decide +kernel
theorem dX6_save_25 : decode cX6_save 25 = .ok (.invokevirtual 71, 3) := by decide +kernel
theorem dX6_save_28 : decode cX6_save 28 = .ok (.ireturn, 1) := by decide +kernel
theorem dX6_restore_0 : decode cX6_restore 0 = .ok (.aload_n 0, 1) := by decide +kernel
theorem dX6_restore_1 : decode cX6_restore 1 = .ok (.getfield 330, 3) := by decide +kernel
theorem dX6_restore_4 : decode cX6_restore 4 = .ok (.ifCond .ne 9, 3) := by decide +kernel
theorem dX6_restore_7 : decode cX6_restore 7 = .ok (.aload_n 0, 1) := by decide +kernel
theorem dX6_restore_8 : decode cX6_restore 8 = .ok (.iconst 1, 1) := by decide +kernel
theorem dX6_restore_9 : decode cX6_restore 9 = .ok (.invokevirtual 45, 3) := by decide +kernel
theorem dX6_restore_12 : decode cX6_restore 12 = .ok (.ireturn, 1) := by decide +kernel
theorem dX6_restore_13 : decode cX6_restore 13 = .ok (.aload_n 0, 1) := by decide +kernel
theorem dX6_restore_14 : decode cX6_restore 14 = .ok (.getfield 16, 3) := by decide +kernel
theorem dX6_restore_17 : decode cX6_restore 17 = .ok (.iconst 0, 1) := by decide +kernel
theorem dX6_restore_18 : decode cX6_restore 18 = .ok (.aload_n 0, 1) := by decide +kernel
theorem dX6_restore_19 : decode cX6_restore 19 = .ok (.getfield 9, 3) := by decide +kernel
theorem dX6_restore_22 : decode cX6_restore 22 = .ok (.iconst 0, 1) := by decide +kernel
theorem dX6_restore_23 : decode cX6_restore 23 = .ok (.invokestatic 52, 3) := by decide +kernel
theorem dX6_restore_26 : decode cX6_restore 26 = .ok (.aload_n 0, 1) := by decide +kernel
theorem dX6_restore_27 : decode cX6_restore 27 = .ok (.iconst 0, 1) := by decide +kernel
theorem dX6_restore_28 : decode cX6_restore 28 = .ok (.putfield 49, 3) := by decide +kernel
theorem dX6_restore_31 : decode cX6_restore 31 = .ok (.aload_n 0, 1) := by decide +kernel
theorem dX6_restore_32 : decode cX6_restore 32 = .ok (.aload_n 0, 1) := by decide +kernel
theorem dX6_restore_33 : decode cX6_restore 33 = .ok (.getfield 9, 3) := by decide +kernel
theorem dX6_restore_36 : decode cX6_restore 36 = .ok (.iconst 4, 1) := by decide +kernel
theorem dX6_restore_37 : decode cX6_restore 37 = .ok (.iaload, 1) := by decide +kernel
theorem dX6_restore_38 : decode cX6_restore 38 = .ok (.invokevirtual 71, 3) := by decide +kernel
theorem dX6_restore_41 : decode cX6_restore 41 = .ok (.ireturn, 1) := by decide +kernel
