/-! decode rows -/
theorem dX5_init_56 : decode cX5_init 56 = .ok (.putfield 36, 3) := by decide +kernel
theorem dX5_init_59 : decode cX5_init 59 = .ok (.aload_n 0, 1) := by decide +kernel
theorem dX5_init_60 : decode cX5_init 60 = .ok (.new 40, 3) := by decide +kernel
theorem dX5_init_63 : decode cX5_init 63 = .ok (.dup, 1) := by decide +kernel
theorem dX5_init_64 : decode cX5_init 64 = .ok (.invokespecial 42, 3) := by decide +kernel
theorem dX5_init_67 : decode cX5_init 67 = .ok (.putfield 43, 3) := by decide +kernel
theorem dX5_init_70 : decode cX5_init 70 = .ok (.aload_n 0, 1) := by decide +kernel
theorem dX5_init_71 : decode cX5_init 71 = .ok (.new 40, 3) := by decide +kernel
theorem dX5_init_74 : decode cX5_init 74 = .ok (.dup, 1) := by decide +kernel
theorem dX5_init_75 : decode cX5_init 75 = .ok (.invokespecial 42, 3) := by decide +kernel
theorem dX5_init_78 : decode cX5_init 78 = .ok (.putfield 47, 3) := by decide +kernel
theorem dX5_init_81 : decode cX5_init 81 = .ok (.aload_n 0, 1) := by decide +kernel
theorem dX5_init_82 : decode cX5_init 82 = .ok (.iconst 0, 1) := by decide +kernel
theorem dX5_init_83 : decode cX5_init 83 = .ok (.putfield 50, 3) := by decide +kernel
theorem dX5_init_86 : decode cX5_init 86 = .ok (.aload_n 0, 1) := by decide +kernel
theorem dX5_init_87 : decode cX5_init 87 = .ok (.iconst (-1), 1) := by decide +kernel
theorem dX5_init_88 : decode cX5_init 88 = .ok (.putfield 54, 3) := by decide +kernel
theorem dX5_init_91 : decode cX5_init 91 = .ok (.aload_n 0, 1) := by decide +kernel
theorem dX5_init_92 : decode cX5_init 92 = .ok (.iconst (-1), 1) := by decide +kernel
theorem dX5_init_93 : decode cX5_init 93 = .ok (.putfield 58, 3) := by decide +kernel
theorem dX5_init_96 : decode cX5_init 96 = .ok (.aload_n 0, 1) := by decide +kernel
theorem dX5_init_97 : decode cX5_init 97 = .ok (.iconst (-1), 1) := by decide +kernel
theorem dX5_init_98 : decode cX5_init 98 = .ok (.putfield 61, 3) := by decide +kernel
theorem dX5_init_101 : decode cX5_init 101 = .ok (.return_, 1) := by decide +kernel
theorem dX5_addHall_0 : decode cX5_addHall 0 = .ok (.iload_n 1, 1) := by decide +kernel
theorem dX5_addHall_1 : decode cX5_addHall 1 = .ok (.iconst 1, 1) := by decide +kernel
theorem dX5_addHall_2 : decode cX5_addHall 2 = .ok (.sipush 400, 3) := by decide +kernel
theorem dX5_addHall_5 : decode cX5_addHall 5 = .ok (.invokestatic 64, 3) := by decide +kernel
theorem dX5_addHall_8 : decode cX5_addHall 8 = .ok (.ifCond .eq 26, 3) := by decide +kernel
theorem dX5_addHall_11 : decode cX5_addHall 11 = .ok (.iload_n 2, 1) := by decide +kernel
theorem dX5_addHall_12 : decode cX5_addHall 12 = .ok (.iconst 0, 1) := by decide +kernel
theorem dX5_addHall_13 : decode cX5_addHall 13 = .ok (.bipush 40, 2) := by decide +kernel
theorem dX5_addHall_15 : decode cX5_addHall 15 = .ok (.invokestatic 64, 3) := by decide +kernel
theorem dX5_addHall_18 : decode cX5_addHall 18 = .ok (.ifCond .eq 16, 3) := by decide +kernel
theorem dX5_addHall_21 : decode cX5_addHall 21 = .ok (.iload_n 3, 1) := by decide +kernel
theorem dX5_addHall_22 : decode cX5_addHall 22 = .ok (.iconst 0, 1) := by decide +kernel
theorem dX5_addHall_23 : decode cX5_addHall 23 = .ok (.iconst 2, 1) := by decide +kernel
theorem dX5_addHall_24 : decode cX5_addHall 24 = .ok (.invokestatic 64, 3) := by decide +kernel
theorem dX5_addHall_27 : decode cX5_addHall 27 = .ok (.ifCond .eq 7, 3) := by decide +kernel
theorem dX5_addHall_30 : decode cX5_addHall 30 = .ok (.iconst 1, 1) := by decide +kernel
theorem dX5_addHall_31 : decode cX5_addHall 31 = .ok (.goto 4, 3) := by decide +kernel
theorem dX5_addHall_34 : decode cX5_addHall 34 = .ok (.iconst 0, 1) := by decide +kernel
theorem dX5_addHall_35 : decode cX5_addHall 35 = .ok (.istore 4, 2) := by decide +kernel
theorem dX5_addHall_37 : decode cX5_addHall 37 = .ok (.iload 4, 2) := by decide +kernel
theorem dX5_addHall_39 : decode cX5_addHall 39 = .ok (.ifCond .ne 13, 3) := by decide +kernel
theorem dX5_addHall_42 : decode cX5_addHall 42 = .ok (.new 68, 3) := by decide +kernel
theorem dX5_addHall_45 : decode cX5_addHall 45 = .ok (.dup, 1) := by decide +kernel
theorem dX5_addHall_46 : decode cX5_addHall 46 = .ok (.ldc 70, 2) := by decide +kernel
theorem dX5_addHall_48 : decode cX5_addHall 48 = .ok (.invokespecial 72, 3) := by decide +kernel
theorem dX5_addHall_51 : decode cX5_addHall 51 = .ok (.athrow, 1) := by decide +kernel
theorem dX5_addHall_52 : decode cX5_addHall 52 = .ok (.aload_n 0, 1) := by decide +kernel
theorem dX5_addHall_53 : decode cX5_addHall 53 = .ok (.getfield 10, 3) := by decide +kernel
theorem dX5_addHall_56 : decode cX5_addHall 56 = .ok (.getfield 75, 3) := by decide +kernel
theorem dX5_addHall_59 : decode cX5_addHall 59 = .ok (.invokevirtual 79, 3) := by decide +kernel
theorem dX5_addHall_62 : decode cX5_addHall 62 = .ok (.bipush 6, 2) := by decide +kernel
theorem dX5_addHall_64 : decode cX5_addHall 64 = .ok (.if_icmp .lt 13, 3) := by decide +kernel
theorem dX5_addHall_67 : decode cX5_addHall 67 = .ok (.new 85, 3) := by decide +kernel
theorem dX5_addHall_70 : decode cX5_addHall 70 = .ok (.dup, 1) := by decide +kernel
theorem dX5_addHall_71 : decode cX5_addHall 71 = .ok (.ldc 87, 2) := by decide +kernel
theorem dX5_addHall_73 : decode cX5_addHall 73 = .ok (.invokespecial 89, 3) := by decide +kernel
theorem dX5_addHall_76 : decode cX5_addHall 76 = .ok (.athrow, 1) := by decide +kernel
theorem dX5_addHall_77 : decode cX5_addHall 77 = .ok (.aload_n 0, 1) := by decide +kernel
theorem dX5_addHall_78 : decode cX5_addHall 78 = .ok (.getfield 22, 3) := by decide +kernel
theorem dX5_addHall_81 : decode cX5_addHall 81 = .ok (.aload_n 0, 1) := by decide +kernel
theorem dX5_addHall_82 : decode cX5_addHall 82 = .ok (.getfield 10, 3) := by decide +kernel
theorem dX5_addHall_85 : decode cX5_addHall 85 = .ok (.invokevirtual 90, 3) := by decide +kernel
theorem dX5_addHall_88 : decode cX5_addHall 88 = .ok (.aload_n 0, 1) := by decide +kernel
theorem dX5_addHall_89 : decode cX5_addHall 89 = .ok (.getfield 10, 3) := by decide +kernel
theorem dX5_addHall_92 : decode cX5_addHall 92 = .ok (.getfield 75, 3) := by decide +kernel
theorem dX5_addHall_95 : decode cX5_addHall 95 = .ok (.invokevirtual 94, 3) := by decide +kernel
theorem dX5_addHall_98 : decode cX5_addHall 98 = .ok (.istore 5, 2) := by decide +kernel
theorem dX5_addHall_100 : decode cX5_addHall 100 = .ok (.aload_n 0, 1) := by decide +kernel
theorem dX5_addHall_101 : decode cX5_addHall 101 = .ok (.getfield 10, 3) := by decide +kernel
theorem dX5_addHall_104 : decode cX5_addHall 104 = .ok (.getfield 75, 3) := by decide +kernel
theorem dX5_addHall_107 : decode cX5_addHall 107 = .ok (.iload 5, 2) := by decide +kernel
theorem dX5_addHall_109 : decode cX5_addHall 109 = .ok (.iconst 0, 1) := by decide +kernel
theorem dX5_addHall_110 : decode cX5_addHall 110 = .ok (.iload_n 1, 1) := by decide +kernel
theorem dX5_addHall_111 : decode cX5_addHall 111 = .ok (.invokevirtual 97, 3) := by decide +kernel
theorem dX5_addHall_114 : decode cX5_addHall 114 = .ok (.aload_n 0, 1) := by decide +kernel
theorem dX5_addHall_115 : decode cX5_addHall 115 = .ok (.getfield 10, 3) := by decide +kernel
theorem dX5_addHall_118 : decode cX5_addHall 118 = .ok (.getfield 75, 3) := by decide +kernel
theorem dX5_addHall_121 : decode cX5_addHall 121 = .ok (.iload 5, 2) := by decide +kernel
theorem dX5_addHall_123 : decode cX5_addHall 123 = .ok (.iconst 1, 1) := by decide +kernel
theorem dX5_addHall_124 : decode cX5_addHall 124 = .ok (.iload_n 2, 1) := by decide +kernel
theorem dX5_addHall_125 : decode cX5_addHall 125 = .ok (.invokevirtual 97, 3) := by decide +kernel
theorem dX5_addHall_128 : decode cX5_addHall 128 = .ok (.aload_n 0, 1) := by decide +kernel
theorem dX5_addHall_129 : decode cX5_addHall 129 = .ok (.getfield 10, 3) := by decide +kernel
theorem dX5_addHall_132 : decode cX5_addHall 132 = .ok (.getfield 75, 3) := by decide +kernel
theorem dX5_addHall_135 : decode cX5_addHall 135 = .ok (.iload 5, 2) := by decide +kernel
theorem dX5_addHall_137 : decode cX5_addHall 137 = .ok (.iconst 2, 1) := by decide +kernel
theorem dX5_addHall_138 : decode cX5_addHall 138 = .ok (.iload_n 3, 1) := by decide +kernel
theorem dX5_addHall_139 : decode cX5_addHall 139 = .ok (.invokevirtual 97, 3) := by decide +kernel
theorem dX5_addHall_142 : decode cX5_addHall 142 = .ok (.aload_n 0, 1) := by decide +kernel
theorem dX5_addHall_143 : decode cX5_addHall 143 = .ok (.getfield 10, 3) := by decide +kernel
theorem dX5_addHall_146 : decode cX5_addHall 146 = .ok (.getfield 75, 3) := by decide +kernel
theorem dX5_addHall_149 : decode cX5_addHall 149 = .ok (.iload 5, 2) := by decide +kernel
theorem dX5_addHall_151 : decode cX5_addHall 151 = .ok (.iconst 3, 1) := by decide +kernel
theorem dX5_addHall_152 : decode cX5_addHall 152 = .ok (.iconst (-1), 1) := by decide +kernel
theorem dX5_addHall_153 : decode cX5_addHall 153 = .ok (.invokevirtual 97, 3) := by decide +kernel
theorem dX5_addHall_156 : decode cX5_addHall 156 = .ok (.iload 5, 2) := by decide +kernel
theorem dX5_addHall_158 : decode cX5_addHall 158 = .ok (.ireturn, 1) := by decide +kernel
theorem dX5_addFilm_0 : decode cX5_addFilm 0 = .ok (.iload_n 1, 1) := by decide +kernel
theorem dX5_addFilm_1 : decode cX5_addFilm 1 = .ok (.bipush 30, 2) := by decide +kernel
theorem dX5_addFilm_3 : decode cX5_addFilm 3 = .ok (.sipush 240, 3) := by decide +kernel
theorem dX5_addFilm_6 : decode cX5_addFilm 6 = .ok (.invokestatic 64, 3) := by decide +kernel
theorem dX5_addFilm_9 : decode cX5_addFilm 9 = .ok (.ifCond .eq 39, 3) := by decide +kernel
theorem dX5_addFilm_12 : decode cX5_addFilm 12 = .ok (.iload_n 2, 1) := by decide +kernel
theorem dX5_addFilm_13 : decode cX5_addFilm 13 = .ok (.invokestatic 101, 3) := by decide +kernel
theorem dX5_addFilm_16 : decode cX5_addFilm 16 = .ok (.ifCond .eq 32, 3) := by decide +kernel
theorem dX5_addFilm_19 : decode cX5_addFilm 19 = .ok (.iload_n 3, 1) := by decide +kernel
theorem dX5_addFilm_20 : decode cX5_addFilm 20 = .ok (.invokestatic 105, 3) := by decide +kernel
theorem dX5_addFilm_23 : decode cX5_addFilm 23 = .ok (.ifCond .eq 25, 3) := by decide +kernel
theorem dX5_addFilm_26 : decode cX5_addFilm 26 = .ok (.iload 4, 2) := by decide +kernel
theorem dX5_addFilm_28 : decode cX5_addFilm 28 = .ok (.iconst 1, 1) := by decide +kernel
theorem dX5_addFilm_29 : decode cX5_addFilm 29 = .ok (.iconst 3, 1) := by decide +kernel
theorem dX5_addFilm_30 : decode cX5_addFilm 30 = .ok (.invokestatic 64, 3) := by decide +kernel
theorem dX5_addFilm_33 : decode cX5_addFilm 33 = .ok (.ifCond .eq 15, 3) := by decide +kernel
theorem dX5_addFilm_36 : decode cX5_addFilm 36 = .ok (.iload 5, 2) := by decide +kernel
theorem dX5_addFilm_38 : decode cX5_addFilm 38 = .ok (.invokestatic 108, 3) := by decide +kernel
theorem dX5_addFilm_41 : decode cX5_addFilm 41 = .ok (.ifCond .eq 7, 3) := by decide +kernel
theorem dX5_addFilm_44 : decode cX5_addFilm 44 = .ok (.iconst 1, 1) := by decide +kernel
theorem dX5_addFilm_45 : decode cX5_addFilm 45 = .ok (.goto 4, 3) := by decide +kernel
theorem dX5_addFilm_48 : decode cX5_addFilm 48 = .ok (.iconst 0, 1) := by decide +kernel
theorem dX5_addFilm_49 : decode cX5_addFilm 49 = .ok (.istore 6, 2) := by decide +kernel
theorem dX5_addFilm_51 : decode cX5_addFilm 51 = .ok (.iload 6, 2) := by decide +kernel
theorem dX5_addFilm_53 : decode cX5_addFilm 53 = .ok (.ifCond .ne 13, 3) := by decide +kernel
theorem dX5_addFilm_56 : decode cX5_addFilm 56 = .ok (.new 68, 3) := by decide +kernel
theorem dX5_addFilm_59 : decode cX5_addFilm 59 = .ok (.dup, 1) := by decide +kernel
theorem dX5_addFilm_60 : decode cX5_addFilm 60 = .ok (.ldc 70, 2) := by decide +kernel
theorem dX5_addFilm_62 : decode cX5_addFilm 62 = .ok (.invokespecial 72, 3) := by decide +kernel
theorem dX5_addFilm_65 : decode cX5_addFilm 65 = .ok (.athrow, 1) := by decide +kernel
theorem dX5_addFilm_66 : decode cX5_addFilm 66 = .ok (.aload_n 0, 1) := by decide +kernel
theorem dX5_addFilm_67 : decode cX5_addFilm 67 = .ok (.getfield 10, 3) := by decide +kernel
theorem dX5_addFilm_70 : decode cX5_addFilm 70 = .ok (.getfield 111, 3) := by decide +kernel
theorem dX5_addFilm_73 : decode cX5_addFilm 73 = .ok (.invokevirtual 79, 3) := by decide +kernel
theorem dX5_addFilm_76 : decode cX5_addFilm 76 = .ok (.bipush 8, 2) := by decide +kernel
theorem dX5_addFilm_78 : decode cX5_addFilm 78 = .ok (.if_icmp .lt 13, 3) := by decide +kernel
theorem dX5_addFilm_81 : decode cX5_addFilm 81 = .ok (.new 85, 3) := by decide +kernel
theorem dX5_addFilm_84 : decode cX5_addFilm 84 = .ok (.dup, 1) := by decide +kernel
theorem dX5_addFilm_85 : decode cX5_addFilm 85 = .ok (.ldc 114, 2) := by decide +kernel
theorem dX5_addFilm_87 : decode cX5_addFilm 87 = .ok (.invokespecial 89, 3) := by decide +kernel
theorem dX5_addFilm_90 : decode cX5_addFilm 90 = .ok (.athrow, 1) := by decide +kernel
theorem dX5_addFilm_91 : decode cX5_addFilm 91 = .ok (.aload_n 0, 1) := by decide +kernel
theorem dX5_addFilm_92 : decode cX5_addFilm 92 = .ok (.getfield 22, 3) := by decide +kernel
theorem dX5_addFilm_95 : decode cX5_addFilm 95 = .ok (.aload_n 0, 1) := by decide +kernel
theorem dX5_addFilm_96 : decode cX5_addFilm 96 = .ok (.getfield 10, 3) := by decide +kernel
theorem dX5_addFilm_99 : decode cX5_addFilm 99 = .ok (.invokevirtual 90, 3) := by decide +kernel
theorem dX5_addFilm_102 : decode cX5_addFilm 102 = .ok (.aload_n 0, 1) := by decide +kernel
theorem dX5_addFilm_103 : decode cX5_addFilm 103 = .ok (.getfield 10, 3) := by decide +kernel
theorem dX5_addFilm_106 : decode cX5_addFilm 106 = .ok (.getfield 111, 3) := by decide +kernel
theorem dX5_addFilm_109 : decode cX5_addFilm 109 = .ok (.invokevirtual 94, 3) := by decide +kernel
theorem dX5_addFilm_112 : decode cX5_addFilm 112 = .ok (.istore 7, 2) := by decide +kernel
theorem dX5_addFilm_114 : decode cX5_addFilm 114 = .ok (.aload_n 0, 1) := by decide +kernel
theorem dX5_addFilm_115 : decode cX5_addFilm 115 = .ok (.getfield 10, 3) := by decide +kernel
theorem dX5_addFilm_118 : decode cX5_addFilm 118 = .ok (.getfield 111, 3) := by decide +kernel
theorem dX5_addFilm_121 : decode cX5_addFilm 121 = .ok (.iload 7, 2) := by decide +kernel
theorem dX5_addFilm_123 : decode cX5_addFilm 123 = .ok (.iconst 0, 1) := by decide +kernel
theorem dX5_addFilm_124 : decode cX5_addFilm 124 = .ok (.iload_n 1, 1) := by decide +kernel
theorem dX5_addFilm_125 : decode cX5_addFilm 125 = .ok (.invokevirtual 97, 3) := by decide +kernel
theorem dX5_addFilm_128 : decode cX5_addFilm 128 = .ok (.aload_n 0, 1) := by decide +kernel
theorem dX5_addFilm_129 : decode cX5_addFilm 129 = .ok (.getfield 10, 3) := by decide +kernel
theorem dX5_addFilm_132 : decode cX5_addFilm 132 = .ok (.getfield 111, 3) := by decide +kernel
theorem dX5_addFilm_135 : decode cX5_addFilm 135 = .ok (.iload 7, 2) := by decide +kernel
theorem dX5_addFilm_137 : decode cX5_addFilm 137 = .ok (.iconst 1, 1) := by decide +kernel
theorem dX5_addFilm_138 : decode cX5_addFilm 138 = .ok (.iload_n 2, 1) := by decide +kernel
theorem dX5_addFilm_139 : decode cX5_addFilm 139 = .ok (.invokevirtual 97, 3) := by decide +kernel
theorem dX5_addFilm_142 : decode cX5_addFilm 142 = .ok (.aload_n 0, 1) := by decide +kernel
theorem dX5_addFilm_143 : decode cX5_addFilm 143 = .ok (.getfield 10, 3) := by decide +kernel
theorem dX5_addFilm_146 : decode cX5_addFilm 146 = .ok (.getfield 111, 3) := by decide +kernel
theorem dX5_addFilm_149 : decode cX5_addFilm 149 = .ok (.iload 7, 2) := by decide +kernel
theorem dX5_addFilm_151 : decode cX5_addFilm 151 = .ok (.iconst 2, 1) := by decide +kernel
theorem dX5_addFilm_152 : decode cX5_addFilm 152 = .ok (.iload_n 3, 1) := by decide +kernel
theorem dX5_addFilm_153 : decode cX5_addFilm 153 = .ok (.invokevirtual 97, 3) := by decide +kernel
theorem dX5_addFilm_156 : decode cX5_addFilm 156 = .ok (.aload_n 0, 1) := by decide +kernel
theorem dX5_addFilm_157 : decode cX5_addFilm 157 = .ok (.getfield 10, 3) := by decide +kernel
theorem dX5_addFilm_160 : decode cX5_addFilm 160 = .ok (.getfield 111, 3) := by decide +kernel
theorem dX5_addFilm_163 : decode cX5_addFilm 163 = .ok (.iload 7, 2) := by decide +kernel
theorem dX5_addFilm_165 : decode cX5_addFilm 165 = .ok (.iconst 3, 1) := by decide +kernel
theorem dX5_addFilm_166 : decode cX5_addFilm 166 = .ok (.iload 4, 2) := by decide +kernel
theorem dX5_addFilm_168 : decode cX5_addFilm 168 = .ok (.invokevirtual 97, 3) := by decide +kernel
theorem dX5_addFilm_171 : decode cX5_addFilm 171 = .ok (.aload_n 0, 1) := by decide +kernel
theorem dX5_addFilm_172 : decode cX5_addFilm 172 = .ok (.getfield 10, 3) := by decide +kernel
theorem dX5_addFilm_175 : decode cX5_addFilm 175 = .ok (.getfield 111, 3) := by decide +kernel
theorem dX5_addFilm_178 : decode cX5_addFilm 178 = .ok (.iload 7, 2) := by decide +kernel
theorem dX5_addFilm_180 : decode cX5_addFilm 180 = .ok (.iconst 4, 1) := by decide +kernel
theorem dX5_addFilm_181 : decode cX5_addFilm 181 = .ok (.iload 5, 2) := by decide +kernel
theorem dX5_addFilm_183 : decode cX5_addFilm 183 = .ok (.invokevirtual 97, 3) := by decide +kernel
theorem dX5_addFilm_186 : decode cX5_addFilm 186 = .ok (.aload_n 0, 1) := by decide +kernel
theorem dX5_addFilm_187 : decode cX5_addFilm 187 = .ok (.getfield 10, 3) := by decide +kernel
theorem dX5_addFilm_190 : decode cX5_addFilm 190 = .ok (.getfield 111, 3) := by decide +kernel
theorem dX5_addFilm_193 : decode cX5_addFilm 193 = .ok (.iload 7, 2) := by decide +kernel
theorem dX5_addFilm_195 : decode cX5_addFilm 195 = .ok (.bipush 9, 2) := by decide +kernel
theorem dX5_addFilm_197 : decode cX5_addFilm 197 = .ok (.bipush 60, 2) := by decide +kernel
theorem dX5_addFilm_199 : decode cX5_addFilm 199 = .ok (.invokevirtual 97, 3) := by decide +kernel
theorem dX5_addFilm_202 : decode cX5_addFilm 202 = .ok (.aload_n 0, 1) := by decide +kernel
theorem dX5_addFilm_203 : decode cX5_addFilm 203 = .ok (.getfield 10, 3) := by decide +kernel
theorem dX5_addFilm_206 : decode cX5_addFilm 206 = .ok (.getfield 111, 3) := by decide +kernel
theorem dX5_addFilm_209 : decode cX5_addFilm 209 = .ok (.iload 7, 2) := by decide +kernel
theorem dX5_addFilm_211 : decode cX5_addFilm 211 = .ok (.bipush 10, 2) := by decide +kernel
theorem dX5_addFilm_213 : decode cX5_addFilm 213 = .ok (.bipush 10, 2) := by decide +kernel
theorem dX5_addFilm_215 : decode cX5_addFilm 215 = .ok (.invokevirtual 97, 3) := by decide +kernel
theorem dX5_addFilm_218 : decode cX5_addFilm 218 = .ok (.aload_n 0, 1) := by decide +kernel
theorem dX5_addFilm_219 : decode cX5_addFilm 219 = .ok (.getfield 10, 3) := by decide +kernel
theorem dX5_addFilm_222 : decode cX5_addFilm 222 = .ok (.getfield 111, 3) := by decide +kernel
theorem dX5_addFilm_225 : decode cX5_addFilm 225 = .ok (.iload 7, 2) := by decide +kernel
theorem dX5_addFilm_227 : decode cX5_addFilm 227 = .ok (.bipush 11, 2) := by decide +kernel
theorem dX5_addFilm_229 : decode cX5_addFilm 229 = .ok (.bipush 20, 2) := by decide +kernel
theorem dX5_addFilm_231 : decode cX5_addFilm 231 = .ok (.invokevirtual 97, 3) := by decide +kernel
theorem dX5_addFilm_234 : decode cX5_addFilm 234 = .ok (.iload 7, 2) := by decide +kernel
theorem dX5_addFilm_236 : decode cX5_addFilm 236 = .ok (.ireturn, 1) := by decide +kernel
theorem dX5_setShares_0 : decode cX5_setShares 0 = .ok (.aload_n 0, 1) := by decide +kernel
theorem dX5_setShares_1 : decode cX5_setShares 1 = .ok (.getfield 10, 3) := by decide +kernel
theorem dX5_setShares_4 : decode cX5_setShares 4 = .ok (.getfield 111, 3) := by decide +kernel
theorem dX5_setShares_7 : decode cX5_setShares 7 = .ok (.iload_n 1, 1) := by decide +kernel
theorem dX5_setShares_8 : decode cX5_setShares 8 = .ok (.invokevirtual 116, 3) := by decide +kernel
theorem dX5_setShares_11 : decode cX5_setShares 11 = .ok (.ifCond .ne 13, 3) := by decide +kernel
theorem dX5_setShares_14 : decode cX5_setShares 14 = .ok (.new 119, 3) := by decide +kernel
theorem dX5_setShares_17 : decode cX5_setShares 17 = .ok (.dup, 1) := by decide +kernel
theorem dX5_setShares_18 : decode cX5_setShares 18 = .ok (.ldc 121, 2) := by decide +kernel
theorem dX5_setShares_20 : decode cX5_setShares 20 = .ok (.invokespecial 123, 3) := by decide +kernel
theorem dX5_setShares_23 : decode cX5_setShares 23 = .ok (.athrow, 1) := by decide +kernel
theorem dX5_setShares_24 : decode cX5_setShares 24 = .ok (.iload_n 2, 1) := by decide +kernel
theorem dX5_setShares_25 : decode cX5_setShares 25 = .ok (.iconst 0, 1) := by decide +kernel
theorem dX5_setShares_26 : decode cX5_setShares 26 = .ok (.bipush 100, 2) := by decide +kernel
theorem dX5_setShares_28 : decode cX5_setShares 28 = .ok (.invokestatic 64, 3) := by decide +kernel
theorem dX5_setShares_31 : decode cX5_setShares 31 = .ok (.ifCond .eq 23, 3) := by decide +kernel
theorem dX5_setShares_34 : decode cX5_setShares 34 = .ok (.iload_n 3, 1) := by decide +kernel
theorem dX5_setShares_35 : decode cX5_setShares 35 = .ok (.iconst 0, 1) := by decide +kernel
theorem dX5_setShares_36 : decode cX5_setShares 36 = .ok (.bipush 50, 2) := by decide +kernel
theorem dX5_setShares_38 : decode cX5_setShares 38 = .ok (.invokestatic 64, 3) := by decide +kernel
theorem dX5_setShares_41 : decode cX5_setShares 41 = .ok (.ifCond .eq 13, 3) := by decide +kernel
theorem dX5_setShares_44 : decode cX5_setShares 44 = .ok (.iload 4, 2) := by decide +kernel
theorem dX5_setShares_46 : decode cX5_setShares 46 = .ok (.iconst 0, 1) := by decide +kernel
theorem dX5_setShares_47 : decode cX5_setShares 47 = .ok (.iload_n 2, 1) := by decide +kernel
theorem dX5_setShares_48 : decode cX5_setShares 48 = .ok (.invokestatic 64, 3) := by decide +kernel
theorem dX5_setShares_51 : decode cX5_setShares 51 = .ok (.ifCond .ne 13, 3) := by decide +kernel
theorem dX5_setShares_54 : decode cX5_setShares 54 = .ok (.new 68, 3) := by decide +kernel
theorem dX5_setShares_57 : decode cX5_setShares 57 = .ok (.dup, 1) := by decide +kernel
theorem dX5_setShares_58 : decode cX5_setShares 58 = .ok (.ldc 124, 2) := by decide +kernel
theorem dX5_setShares_60 : decode cX5_setShares 60 = .ok (.invokespecial 72, 3) := by decide +kernel
theorem dX5_setShares_63 : decode cX5_setShares 63 = .ok (.athrow, 1) := by decide +kernel
theorem dX5_setShares_64 : decode cX5_setShares 64 = .ok (.aload_n 0, 1) := by decide +kernel
theorem dX5_setShares_65 : decode cX5_setShares 65 = .ok (.getfield 22, 3) := by decide +kernel
theorem dX5_setShares_68 : decode cX5_setShares 68 = .ok (.aload_n 0, 1) := by decide +kernel
theorem dX5_setShares_69 : decode cX5_setShares 69 = .ok (.getfield 10, 3) := by decide +kernel
theorem dX5_setShares_72 : decode cX5_setShares 72 = .ok (.invokevirtual 90, 3) := by decide +kernel
theorem dX5_setShares_75 : decode cX5_setShares 75 = .ok (.aload_n 0, 1) := by decide +kernel
theorem dX5_setShares_76 : decode cX5_setShares 76 = .ok (.getfield 10, 3) := by decide +kernel
theorem dX5_setShares_79 : decode cX5_setShares 79 = .ok (.getfield 111, 3) := by decide +kernel
theorem dX5_setShares_82 : decode cX5_setShares 82 = .ok (.iload_n 1, 1) := by decide +kernel
theorem dX5_setShares_83 : decode cX5_setShares 83 = .ok (.bipush 9, 2) := by decide +kernel
theorem dX5_setShares_85 : decode cX5_setShares 85 = .ok (.invokevirtual 126, 3) := by decide +kernel
theorem dX5_setShares_88 : decode cX5_setShares 88 = .ok (.istore 5, 2) := by decide +kernel
theorem dX5_setShares_90 : decode cX5_setShares 90 = .ok (.aload_n 0, 1) := by decide +kernel
theorem dX5_setShares_91 : decode cX5_setShares 91 = .ok (.getfield 10, 3) := by decide +kernel
theorem dX5_setShares_94 : decode cX5_setShares 94 = .ok (.getfield 111, 3) := by decide +kernel
theorem dX5_setShares_97 : decode cX5_setShares 97 = .ok (.iload_n 1, 1) := by decide +kernel
theorem dX5_setShares_98 : decode cX5_setShares 98 = .ok (.bipush 9, 2) := by decide +kernel
theorem dX5_setShares_100 : decode cX5_setShares 100 = .ok (.iload_n 2, 1) := by decide +kernel
theorem dX5_setShares_101 : decode cX5_setShares 101 = .ok (.invokevirtual 97, 3) := by decide +kernel
theorem dX5_setShares_104 : decode cX5_setShares 104 = .ok (.aload_n 0, 1) := by decide +kernel
theorem dX5_setShares_105 : decode cX5_setShares 105 = .ok (.getfield 10, 3) := by decide +kernel
theorem dX5_setShares_108 : decode cX5_setShares 108 = .ok (.getfield 111, 3) := by decide +kernel
theorem dX5_setShares_111 : decode cX5_setShares 111 = .ok (.iload_n 1, 1) := by decide +kernel
theorem dX5_setShares_112 : decode cX5_setShares 112 = .ok (.bipush 10, 2) := by decide +kernel
theorem dX5_setShares_114 : decode cX5_setShares 114 = .ok (.iload_n 3, 1) := by decide +kernel
theorem dX5_setShares_115 : decode cX5_setShares 115 = .ok (.invokevirtual 97, 3) := by decide +kernel
theorem dX5_setShares_118 : decode cX5_setShares 118 = .ok (.aload_n 0, 1) := by decide +kernel
theorem dX5_setShares_119 : decode cX5_setShares 119 = .ok (.getfield 10, 3) := by decide +kernel
theorem dX5_setShares_122 : decode cX5_setShares 122 = .ok (.getfield 111, 3) := by decide +kernel
theorem dX5_setShares_125 : decode cX5_setShares 125 = .ok (.iload_n 1, 1) := by decide +kernel
theorem dX5_setShares_126 : decode cX5_setShares 126 = .ok (.bipush 11, 2) := by decide +kernel
theorem dX5_setShares_128 : decode cX5_setShares 128 = .ok (.iload 4, 2) := by decide +kernel
theorem dX5_setShares_130 : decode cX5_setShares 130 = .ok (.invokevirtual 97, 3) := by decide +kernel
theorem dX5_setShares_133 : decode cX5_setShares 133 = .ok (.iload 5, 2) := by decide +kernel
theorem dX5_setShares_135 : decode cX5_setShares 135 = .ok (.ireturn, 1) := by decide +kernel
theorem dX5_addTrailer_0 : decode cX5_addTrailer 0 = .ok (.aload_n 0, 1) := by decide +kernel
theorem dX5_addTrailer_1 : decode cX5_addTrailer 1 = .ok (.getfield 10, 3) := by decide +kernel
theorem dX5_addTrailer_4 : decode cX5_addTrailer 4 = .ok (.getfield 111, 3) := by decide +kernel
theorem dX5_addTrailer_7 : decode cX5_addTrailer 7 = .ok (.iload_n 1, 1) := by decide +kernel
theorem dX5_addTrailer_8 : decode cX5_addTrailer 8 = .ok (.invokevirtual 116, 3) := by decide +kernel
theorem dX5_addTrailer_11 : decode cX5_addTrailer 11 = .ok (.ifCond .ne 13, 3) := by decide +kernel
theorem dX5_addTrailer_14 : decode cX5_addTrailer 14 = .ok (.new 119, 3) := by decide +kernel
theorem dX5_addTrailer_17 : decode cX5_addTrailer 17 = .ok (.dup, 1) := by decide +kernel
theorem dX5_addTrailer_18 : decode cX5_addTrailer 18 = .ok (.ldc 121, 2) := by decide +kernel
theorem dX5_addTrailer_20 : decode cX5_addTrailer 20 = .ok (.invokespecial 123, 3) := by decide +kernel
theorem dX5_addTrailer_23 : decode cX5_addTrailer 23 = .ok (.athrow, 1) := by decide +kernel
theorem dX5_addTrailer_24 : decode cX5_addTrailer 24 = .ok (.iload_n 2, 1) := by decide +kernel
theorem dX5_addTrailer_25 : decode cX5_addTrailer 25 = .ok (.iconst 1, 1) := by decide +kernel
theorem dX5_addTrailer_26 : decode cX5_addTrailer 26 = .ok (.bipush 6, 2) := by decide +kernel
theorem dX5_addTrailer_28 : decode cX5_addTrailer 28 = .ok (.invokestatic 64, 3) := by decide +kernel
theorem dX5_addTrailer_31 : decode cX5_addTrailer 31 = .ok (.ifCond .eq 18, 3) := by decide +kernel
theorem dX5_addTrailer_34 : decode cX5_addTrailer 34 = .ok (.iload_n 3, 1) := by decide +kernel
theorem dX5_addTrailer_35 : decode cX5_addTrailer 35 = .ok (.invokestatic 101, 3) := by decide +kernel
theorem dX5_addTrailer_38 : decode cX5_addTrailer 38 = .ok (.ifCond .eq 11, 3) := by decide +kernel
theorem dX5_addTrailer_41 : decode cX5_addTrailer 41 = .ok (.iload 4, 2) := by decide +kernel
theorem dX5_addTrailer_43 : decode cX5_addTrailer 43 = .ok (.invokestatic 105, 3) := by decide +kernel
theorem dX5_addTrailer_46 : decode cX5_addTrailer 46 = .ok (.ifCond .ne 13, 3) := by decide +kernel
theorem dX5_addTrailer_49 : decode cX5_addTrailer 49 = .ok (.new 68, 3) := by decide +kernel
theorem dX5_addTrailer_52 : decode cX5_addTrailer 52 = .ok (.dup, 1) := by decide +kernel
theorem dX5_addTrailer_53 : decode cX5_addTrailer 53 = .ok (.ldc 124, 2) := by decide +kernel
theorem dX5_addTrailer_55 : decode cX5_addTrailer 55 = .ok (.invokespecial 72, 3) := by decide +kernel
theorem dX5_addTrailer_58 : decode cX5_addTrailer 58 = .ok (.athrow, 1) := by decide +kernel
theorem dX5_addTrailer_59 : decode cX5_addTrailer 59 = .ok (.aload_n 0, 1) := by decide +kernel
theorem dX5_addTrailer_60 : decode cX5_addTrailer 60 = .ok (.getfield 10, 3) := by decide +kernel
theorem dX5_addTrailer_63 : decode cX5_addTrailer 63 = .ok (.getfield 130, 3) := by decide +kernel
theorem dX5_addTrailer_66 : decode cX5_addTrailer 66 = .ok (.invokevirtual 79, 3) := by decide +kernel
theorem dX5_addTrailer_69 : decode cX5_addTrailer 69 = .ok (.bipush 10, 2) := by decide +kernel
theorem dX5_addTrailer_71 : decode cX5_addTrailer 71 = .ok (.if_icmp .lt 13, 3) := by decide +kernel
theorem dX5_addTrailer_74 : decode cX5_addTrailer 74 = .ok (.new 85, 3) := by decide +kernel
theorem dX5_addTrailer_77 : decode cX5_addTrailer 77 = .ok (.dup, 1) := by decide +kernel
theorem dX5_addTrailer_78 : decode cX5_addTrailer 78 = .ok (.ldc 133, 2) := by decide +kernel
theorem dX5_addTrailer_80 : decode cX5_addTrailer 80 = .ok (.invokespecial 89, 3) := by decide +kernel
theorem dX5_addTrailer_83 : decode cX5_addTrailer 83 = .ok (.athrow, 1) := by decide +kernel
theorem dX5_addTrailer_84 : decode cX5_addTrailer 84 = .ok (.aload_n 0, 1) := by decide +kernel
theorem dX5_addTrailer_85 : decode cX5_addTrailer 85 = .ok (.getfield 22, 3) := by decide +kernel
theorem dX5_addTrailer_88 : decode cX5_addTrailer 88 = .ok (.aload_n 0, 1) := by decide +kernel
theorem dX5_addTrailer_89 : decode cX5_addTrailer 89 = .ok (.getfield 10, 3) := by decide +kernel
theorem dX5_addTrailer_92 : decode cX5_addTrailer 92 = .ok (.invokevirtual 90, 3) := by decide +kernel
theorem dX5_addTrailer_95 : decode cX5_addTrailer 95 = .ok (.aload_n 0, 1) := by decide +kernel
theorem dX5_addTrailer_96 : decode cX5_addTrailer 96 = .ok (.getfield 10, 3) := by decide +kernel
theorem dX5_addTrailer_99 : decode cX5_addTrailer 99 = .ok (.getfield 130, 3) := by decide +kernel
theorem dX5_addTrailer_102 : decode cX5_addTrailer 102 = .ok (.invokevirtual 94, 3) := by decide +kernel
theorem dX5_addTrailer_105 : decode cX5_addTrailer 105 = .ok (.istore 5, 2) := by decide +kernel
theorem dX5_addTrailer_107 : decode cX5_addTrailer 107 = .ok (.aload_n 0, 1) := by decide +kernel
theorem dX5_addTrailer_108 : decode cX5_addTrailer 108 = .ok (.getfield 10, 3) := by decide +kernel
theorem dX5_addTrailer_111 : decode cX5_addTrailer 111 = .ok (.getfield 130, 3) := by decide +kernel
theorem dX5_addTrailer_114 : decode cX5_addTrailer 114 = .ok (.iload 5, 2) := by decide +kernel
theorem dX5_addTrailer_116 : decode cX5_addTrailer 116 = .ok (.iconst 0, 1) := by decide +kernel
theorem dX5_addTrailer_117 : decode cX5_addTrailer 117 = .ok (.iload_n 1, 1) := by decide +kernel
theorem dX5_addTrailer_118 : decode cX5_addTrailer 118 = .ok (.invokevirtual 97, 3) := by decide +kernel
theorem dX5_addTrailer_121 : decode cX5_addTrailer 121 = .ok (.aload_n 0, 1) := by decide +kernel
theorem dX5_addTrailer_122 : decode cX5_addTrailer 122 = .ok (.getfield 10, 3) := by decide +kernel
theorem dX5_addTrailer_125 : decode cX5_addTrailer 125 = .ok (.getfield 130, 3) := by decide +kernel
theorem dX5_addTrailer_128 : decode cX5_addTrailer 128 = .ok (.iload 5, 2) := by decide +kernel
theorem dX5_addTrailer_130 : decode cX5_addTrailer 130 = .ok (.iconst 1, 1) := by decide +kernel
theorem dX5_addTrailer_131 : decode cX5_addTrailer 131 = .ok (.iload_n 2, 1) := by decide +kernel
theorem dX5_addTrailer_132 : decode cX5_addTrailer 132 = .ok (.invokevirtual 97, 3) := by decide +kernel
theorem dX5_addTrailer_135 : decode cX5_addTrailer 135 = .ok (.aload_n 0, 1) := by decide +kernel
theorem dX5_addTrailer_136 : decode cX5_addTrailer 136 = .ok (.getfield 10, 3) := by decide +kernel
theorem dX5_addTrailer_139 : decode cX5_addTrailer 139 = .ok (.getfield 130, 3) := by decide +kernel
theorem dX5_addTrailer_142 : decode cX5_addTrailer 142 = .ok (.iload 5, 2) := by decide +kernel
theorem dX5_addTrailer_144 : decode cX5_addTrailer 144 = .ok (.iconst 2, 1) := by decide +kernel
theorem dX5_addTrailer_145 : decode cX5_addTrailer 145 = .ok (.iload_n 3, 1) := by decide +kernel
theorem dX5_addTrailer_146 : decode cX5_addTrailer 146 = .ok (.invokevirtual 97, 3) := by decide +kernel
theorem dX5_addTrailer_149 : decode cX5_addTrailer 149 = .ok (.aload_n 0, 1) := by decide +kernel
theorem dX5_addTrailer_150 : decode cX5_addTrailer 150 = .ok (.getfield 10, 3) := by decide +kernel
theorem dX5_addTrailer_153 : decode cX5_addTrailer 153 = .ok (.getfield 130, 3) := by decide +kernel
theorem dX5_addTrailer_156 : decode cX5_addTrailer 156 = .ok (.iload 5, 2) := by decide +kernel
theorem dX5_addTrailer_158 : decode cX5_addTrailer 158 = .ok (.iconst 3, 1) := by decide +kernel
theorem dX5_addTrailer_159 : decode cX5_addTrailer 159 = .ok (.iload 4, 2) := by decide +kernel
theorem dX5_addTrailer_161 : decode cX5_addTrailer 161 = .ok (.invokevirtual 97, 3) := by decide +kernel
theorem dX5_addTrailer_164 : decode cX5_addTrailer 164 = .ok (.iload 5, 2) := by decide +kernel
theorem dX5_addTrailer_166 : decode cX5_addTrailer 166 = .ok (.ireturn, 1) := by decide +kernel
theorem dX5_set_0 : decode cX5_set 0 = .ok (.iload_n 1, 1) := by decide +kernel
theorem dX5_set_1 : decode cX5_set 1 = .ok (.ifCond .lt 19, 3) := by decide +kernel
theorem dX5_set_4 : decode cX5_set 4 = .ok (.iload_n 1, 1) := by decide +kernel
theorem dX5_set_5 : decode cX5_set 5 = .ok (.getstatic 135, 3) := by decide +kernel
theorem dX5_set_8 : decode cX5_set 8 = .ok (.arraylength, 1) := by decide +kernel
theorem dX5_set_9 : decode cX5_set 9 = .ok (.if_icmp .ge 11, 3) := by decide +kernel
theorem dX5_set_12 : decode cX5_set 12 = .ok (.iload_n 1, 1) := by decide +kernel
theorem dX5_set_13 : decode cX5_set 13 = .ok (.getstatic 139, 3) := by decide +kernel
theorem dX5_set_16 : decode cX5_set 16 = .ok (.arraylength, 1) := by decide +kernel
theorem dX5_set_17 : decode cX5_set 17 = .ok (.if_icmp .lt 13, 3) := by decide +kernel
theorem dX5_set_20 : decode cX5_set 20 = .ok (.new 119, 3) := by decide +kernel
theorem dX5_set_23 : decode cX5_set 23 = .ok (.dup, 1) := by decide +kernel
theorem dX5_set_24 : decode cX5_set 24 = .ok (.ldc 142, 2) := by decide +kernel
theorem dX5_set_26 : decode cX5_set 26 = .ok (.invokespecial 123, 3) := by decide +kernel
theorem dX5_set_29 : decode cX5_set 29 = .ok (.athrow, 1) := by decide +kernel
theorem dX5_set_30 : decode cX5_set 30 = .ok (.iload_n 2, 1) := by decide +kernel
theorem dX5_set_31 : decode cX5_set 31 = .ok (.getstatic 135, 3) := by decide +kernel
theorem dX5_set_34 : decode cX5_set 34 = .ok (.iload_n 1, 1) := by decide +kernel
theorem dX5_set_35 : decode cX5_set 35 = .ok (.iaload, 1) := by decide +kernel
theorem dX5_set_36 : decode cX5_set 36 = .ok (.getstatic 139, 3) := by decide +kernel
theorem dX5_set_39 : decode cX5_set 39 = .ok (.iload_n 1, 1) := by decide +kernel
theorem dX5_set_40 : decode cX5_set 40 = .ok (.iaload, 1) := by decide +kernel
theorem dX5_set_41 : decode cX5_set 41 = .ok (.invokestatic 64, 3) := by decide +kernel
theorem dX5_set_44 : decode cX5_set 44 = .ok (.ifCond .ne 13, 3) := by decide +kernel
theorem dX5_set_47 : decode cX5_set 47 = .ok (.new 68, 3) := by decide +kernel
theorem dX5_set_50 : decode cX5_set 50 = .ok (.dup, 1) := by decide +kernel
theorem dX5_set_51 : decode cX5_set 51 = .ok (.ldc 144, 2) := by decide +kernel
theorem dX5_set_53 : decode cX5_set 53 = .ok (.invokespecial 72, 3) := by decide +kernel
theorem dX5_set_56 : decode cX5_set 56 = .ok (.athrow, 1) := by decide +kernel
theorem dX5_set_57 : decode cX5_set 57 = .ok (.aload_n 0, 1) := by decide +kernel
theorem dX5_set_58 : decode cX5_set 58 = .ok (.getfield 22, 3) := by decide +kernel
theorem dX5_set_61 : decode cX5_set 61 = .ok (.aload_n 0, 1) := by decide +kernel
theorem dX5_set_62 : decode cX5_set 62 = .ok (.getfield 10, 3) := by decide +kernel
theorem dX5_set_65 : decode cX5_set 65 = .ok (.invokevirtual 90, 3) := by decide +kernel
theorem dX5_set_68 : decode cX5_set 68 = .ok (.aload_n 0, 1) := by decide +kernel
theorem dX5_set_69 : decode cX5_set 69 = .ok (.getfield 10, 3) := by decide +kernel
theorem dX5_set_72 : decode cX5_set 72 = .ok (.iload_n 1, 1) := by decide +kernel
theorem dX5_set_73 : decode cX5_set 73 = .ok (.iload_n 2, 1) := by decide +kernel
theorem dX5_set_74 : decode cX5_set 74 = .ok (.invokevirtual 146, 3) := by decide +kernel
theorem dX5_set_77 : decode cX5_set 77 = .ok (.ireturn, 1) := by decide +kernel
theorem dX5_setLimit_0 : decode cX5_setLimit 0 = .ok (.iload_n 1, 1) := by decide +kernel
theorem dX5_setLimit_1 : decode cX5_setLimit 1 = .ok (.iconst 0, 1) := by decide +kernel
theorem dX5_setLimit_2 : decode cX5_setLimit 2 = .ok (.bipush 15, 2) := by decide +kernel
theorem dX5_setLimit_4 : decode cX5_setLimit 4 = .ok (.invokestatic 64, 3) := by decide +kernel
theorem dX5_setLimit_7 : decode cX5_setLimit 7 = .ok (.ifCond .ne 13, 3) := by decide +kernel
theorem dX5_setLimit_10 : decode cX5_setLimit 10 = .ok (.new 119, 3) := by decide +kernel
theorem dX5_setLimit_13 : decode cX5_setLimit 13 = .ok (.dup, 1) := by decide +kernel
theorem dX5_setLimit_14 : decode cX5_setLimit 14 = .ok (.ldc 149, 2) := by decide +kernel
theorem dX5_setLimit_16 : decode cX5_setLimit 16 = .ok (.invokespecial 123, 3) := by decide +kernel
theorem dX5_setLimit_19 : decode cX5_setLimit 19 = .ok (.athrow, 1) := by decide +kernel
theorem dX5_setLimit_20 : decode cX5_setLimit 20 = .ok (.iload_n 2, 1) := by decide +kernel
theorem dX5_setLimit_21 : decode cX5_setLimit 21 = .ok (.invokestatic 101, 3) := by decide +kernel
theorem dX5_setLimit_24 : decode cX5_setLimit 24 = .ok (.ifCond .ne 13, 3) := by decide +kernel
theorem dX5_setLimit_27 : decode cX5_setLimit 27 = .ok (.new 68, 3) := by decide +kernel
theorem dX5_setLimit_30 : decode cX5_setLimit 30 = .ok (.dup, 1) := by decide +kernel
theorem dX5_setLimit_31 : decode cX5_setLimit 31 = .ok (.ldc 151, 2) := by decide +kernel
theorem dX5_setLimit_33 : decode cX5_setLimit 33 = .ok (.invokespecial 72, 3) := by decide +kernel
theorem dX5_setLimit_36 : decode cX5_setLimit 36 = .ok (.athrow, 1) := by decide +kernel
theorem dX5_setLimit_37 : decode cX5_setLimit 37 = .ok (.aload_n 0, 1) := by decide +kernel
theorem dX5_setLimit_38 : decode cX5_setLimit 38 = .ok (.getfield 22, 3) := by decide +kernel
theorem dX5_setLimit_41 : decode cX5_setLimit 41 = .ok (.aload_n 0, 1) := by decide +kernel
theorem dX5_setLimit_42 : decode cX5_setLimit 42 = .ok (.getfield 10, 3) := by decide +kernel
theorem dX5_setLimit_45 : decode cX5_setLimit 45 = .ok (.invokevirtual 90, 3) := by decide +kernel
theorem dX5_setLimit_48 : decode cX5_setLimit 48 = .ok (.aload_n 0, 1) := by decide +kernel
theorem dX5_setLimit_49 : decode cX5_setLimit 49 = .ok (.getfield 10, 3) := by decide +kernel
theorem dX5_setLimit_52 : decode cX5_setLimit 52 = .ok (.bipush 10, 2) := by decide +kernel
theorem dX5_setLimit_54 : decode cX5_setLimit 54 = .ok (.iload_n 1, 1) := by decide +kernel
theorem dX5_setLimit_55 : decode cX5_setLimit 55 = .ok (.iadd, 1) := by decide +kernel
theorem dX5_setLimit_56 : decode cX5_setLimit 56 = .ok (.iload_n 2, 1) := by decide +kernel
theorem dX5_setLimit_57 : decode cX5_setLimit 57 = .ok (.invokevirtual 146, 3) := by decide +kernel
theorem dX5_setLimit_60 : decode cX5_setLimit 60 = .ok (.ireturn, 1) := by decide +kernel
theorem dX5_setting_0 : decode cX5_setting 0 = .ok (.iload_n 1, 1) := by decide +kernel
theorem dX5_setting_1 : decode cX5_setting 1 = .ok (.iconst 0, 1) := by decide +kernel
theorem dX5_setting_2 : decode cX5_setting 2 = .ok (.iconst 5, 1) := by decide +kernel
theorem dX5_setting_3 : decode cX5_setting 3 = .ok (.invokestatic 64, 3) := by decide +kernel
theorem dX5_setting_6 : decode cX5_setting 6 = .ok (.ifCond .ne 24, 3) := by decide +kernel
theorem dX5_setting_9 : decode cX5_setting 9 = .ok (.iload_n 1, 1) := by decide +kernel
theorem dX5_setting_10 : decode cX5_setting 10 = .ok (.bipush 10, 2) := by decide +kernel
theorem dX5_setting_12 : decode cX5_setting 12 = .ok (.bipush 25, 2) := by decide +kernel
theorem dX5_setting_14 : decode cX5_setting 14 = .ok (.invokestatic 64, 3) := by decide +kernel
theorem dX5_setting_17 : decode cX5_setting 17 = .ok (.ifCond .ne 13, 3) := by decide +kernel
theorem dX5_setting_20 : decode cX5_setting 20 = .ok (.new 119, 3) := by decide +kernel
theorem dX5_setting_23 : decode cX5_setting 23 = .ok (.dup, 1) := by decide +kernel
theorem dX5_setting_24 : decode cX5_setting 24 = .ok (.ldc 153, 2) := by decide +kernel
theorem dX5_setting_26 : decode cX5_setting 26 = .ok (.invokespecial 123, 3) := by decide +kernel
theorem dX5_setting_29 : decode cX5_setting 29 = .ok (.athrow, 1) := by decide +kernel
theorem dX5_setting_30 : decode cX5_setting 30 = .ok (.aload_n 0, 1) := by decide +kernel
theorem dX5_setting_31 : decode cX5_setting 31 = .ok (.getfield 10, 3) := by decide +kernel
theorem dX5_setting_34 : decode cX5_setting 34 = .ok (.iload_n 1, 1) := by decide +kernel
theorem dX5_setting_35 : decode cX5_setting 35 = .ok (.invokevirtual 155, 3) := by decide +kernel
theorem dX5_setting_38 : decode cX5_setting 38 = .ok (.ireturn, 1) := by decide +kernel
theorem dX5_hall_0 : decode cX5_hall 0 = .ok (.aload_n 0, 1) := by decide +kernel
theorem dX5_hall_1 : decode cX5_hall 1 = .ok (.getfield 10, 3) := by decide +kernel
theorem dX5_hall_4 : decode cX5_hall 4 = .ok (.getfield 75, 3) := by decide +kernel
theorem dX5_hall_7 : decode cX5_hall 7 = .ok (.iload_n 1, 1) := by decide +kernel
theorem dX5_hall_8 : decode cX5_hall 8 = .ok (.invokevirtual 116, 3) := by decide +kernel
theorem dX5_hall_11 : decode cX5_hall 11 = .ok (.ifCond .ne 13, 3) := by decide +kernel
theorem dX5_hall_14 : decode cX5_hall 14 = .ok (.new 119, 3) := by decide +kernel
theorem dX5_hall_17 : decode cX5_hall 17 = .ok (.dup, 1) := by decide +kernel
theorem dX5_hall_18 : decode cX5_hall 18 = .ok (.ldc 159, 2) := by decide +kernel
theorem dX5_hall_20 : decode cX5_hall 20 = .ok (.invokespecial 123, 3) := by decide +kernel
theorem dX5_hall_23 : decode cX5_hall 23 = .ok (.athrow, 1) := by decide +kernel
theorem dX5_hall_24 : decode cX5_hall 24 = .ok (.iload_n 2, 1) := by decide +kernel
theorem dX5_hall_25 : decode cX5_hall 25 = .ok (.iconst 0, 1) := by decide +kernel
theorem dX5_hall_26 : decode cX5_hall 26 = .ok (.bipush 6, 2) := by decide +kernel
theorem dX5_hall_28 : decode cX5_hall 28 = .ok (.invokestatic 64, 3) := by decide +kernel
theorem dX5_hall_31 : decode cX5_hall 31 = .ok (.ifCond .ne 13, 3) := by decide +kernel
theorem dX5_hall_34 : decode cX5_hall 34 = .ok (.new 68, 3) := by decide +kernel
theorem dX5_hall_37 : decode cX5_hall 37 = .ok (.dup, 1) := by decide +kernel
theorem dX5_hall_38 : decode cX5_hall 38 = .ok (.ldc 161, 2) := by decide +kernel
theorem dX5_hall_40 : decode cX5_hall 40 = .ok (.invokespecial 72, 3) := by decide +kernel
theorem dX5_hall_43 : decode cX5_hall 43 = .ok (.athrow, 1) := by decide +kernel
theorem dX5_hall_44 : decode cX5_hall 44 = .ok (.iload_n 2, 1) := by decide +kernel
theorem dX5_hall_45 : decode cX5_hall 45 = .ok (.tableswitch 60 4 6 #[27, 38, 49], 27) := by decide +kernel
theorem dX5_hall_72 : decode cX5_hall 72 = .ok (.aload_n 0, 1) := by decide +kernel
theorem dX5_hall_73 : decode cX5_hall 73 = .ok (.getfield 10, 3) := by decide +kernel
theorem dX5_hall_76 : decode cX5_hall 76 = .ok (.iconst 0, 1) := by decide +kernel
theorem dX5_hall_77 : decode cX5_hall 77 = .ok (.iconst 0, 1) := by decide +kernel
theorem dX5_hall_78 : decode cX5_hall 78 = .ok (.iload_n 1, 1) := by decide +kernel
theorem dX5_hall_79 : decode cX5_hall 79 = .ok (.invokevirtual 163, 3) := by decide +kernel
theorem dX5_hall_82 : decode cX5_hall 82 = .ok (.ireturn, 1) := by decide +kernel
theorem dX5_hall_83 : decode cX5_hall 83 = .ok (.aload_n 0, 1) := by decide +kernel
theorem dX5_hall_84 : decode cX5_hall 84 = .ok (.getfield 10, 3) := by decide +kernel
theorem dX5_hall_87 : decode cX5_hall 87 = .ok (.iconst 1, 1) := by decide +kernel
theorem dX5_hall_88 : decode cX5_hall 88 = .ok (.iconst 0, 1) := by decide +kernel
theorem dX5_hall_89 : decode cX5_hall 89 = .ok (.iload_n 1, 1) := by decide +kernel
theorem dX5_hall_90 : decode cX5_hall 90 = .ok (.invokevirtual 163, 3) := by decide +kernel
theorem dX5_hall_93 : decode cX5_hall 93 = .ok (.ireturn, 1) := by decide +kernel
theorem dX5_hall_94 : decode cX5_hall 94 = .ok (.aload_n 0, 1) := by decide +kernel
theorem dX5_hall_95 : decode cX5_hall 95 = .ok (.getfield 10, 3) := by decide +kernel
theorem dX5_hall_98 : decode cX5_hall 98 = .ok (.iconst 2, 1) := by decide +kernel
theorem dX5_hall_99 : decode cX5_hall 99 = .ok (.iconst 0, 1) := by decide +kernel
theorem dX5_hall_100 : decode cX5_hall 100 = .ok (.iload_n 1, 1) := by decide +kernel
theorem dX5_hall_101 : decode cX5_hall 101 = .ok (.invokevirtual 163, 3) := by decide +kernel
theorem dX5_hall_104 : decode cX5_hall 104 = .ok (.ireturn, 1) := by decide +kernel
theorem dX5_hall_105 : decode cX5_hall 105 = .ok (.aload_n 0, 1) := by decide +kernel
theorem dX5_hall_106 : decode cX5_hall 106 = .ok (.getfield 10, 3) := by decide +kernel
theorem dX5_hall_109 : decode cX5_hall 109 = .ok (.getfield 75, 3) := by decide +kernel
theorem dX5_hall_112 : decode cX5_hall 112 = .ok (.iload_n 1, 1) := by decide +kernel
theorem dX5_hall_113 : decode cX5_hall 113 = .ok (.iload_n 2, 1) := by decide +kernel
theorem dX5_hall_114 : decode cX5_hall 114 = .ok (.invokevirtual 126, 3) := by decide +kernel
theorem dX5_hall_117 : decode cX5_hall 117 = .ok (.ireturn, 1) := by decide +kernel
theorem dX5_film_0 : decode cX5_film 0 = .ok (.aload_n 0, 1) := by decide +kernel
theorem dX5_film_1 : decode cX5_film 1 = .ok (.getfield 10, 3) := by decide +kernel
theorem dX5_film_4 : decode cX5_film 4 = .ok (.getfield 111, 3) := by decide +kernel
theorem dX5_film_7 : decode cX5_film 7 = .ok (.iload_n 1, 1) := by decide +kernel
theorem dX5_film_8 : decode cX5_film 8 = .ok (.invokevirtual 116, 3) := by decide +kernel
theorem dX5_film_11 : decode cX5_film 11 = .ok (.ifCond .ne 13, 3) := by decide +kernel
theorem dX5_film_14 : decode cX5_film 14 = .ok (.new 119, 3) := by decide +kernel
theorem dX5_film_17 : decode cX5_film 17 = .ok (.dup, 1) := by decide +kernel
theorem dX5_film_18 : decode cX5_film 18 = .ok (.ldc 121, 2) := by decide +kernel
theorem dX5_film_20 : decode cX5_film 20 = .ok (.invokespecial 123, 3) := by decide +kernel
theorem dX5_film_23 : decode cX5_film 23 = .ok (.athrow, 1) := by decide +kernel
theorem dX5_film_24 : decode cX5_film 24 = .ok (.iload_n 2, 1) := by decide +kernel
theorem dX5_film_25 : decode cX5_film 25 = .ok (.iconst 0, 1) := by decide +kernel
theorem dX5_film_26 : decode cX5_film 26 = .ok (.bipush 11, 2) := by decide +kernel
theorem dX5_film_28 : decode cX5_film 28 = .ok (.invokestatic 64, 3) := by decide +kernel
theorem dX5_film_31 : decode cX5_film 31 = .ok (.ifCond .ne 13, 3) := by decide +kernel
theorem dX5_film_34 : decode cX5_film 34 = .ok (.new 68, 3) := by decide +kernel
theorem dX5_film_37 : decode cX5_film 37 = .ok (.dup, 1) := by decide +kernel
theorem dX5_film_38 : decode cX5_film 38 = .ok (.ldc 167, 2) := by decide +kernel
theorem dX5_film_40 : decode cX5_film 40 = .ok (.invokespecial 72, 3) := by decide +kernel
theorem dX5_film_43 : decode cX5_film 43 = .ok (.athrow, 1) := by decide +kernel
theorem dX5_film_44 : decode cX5_film 44 = .ok (.iload_n 2, 1) := by decide +kernel
theorem dX5_film_45 : decode cX5_film 45 = .ok (.tableswitch 75 5 8 #[31, 42, 53, 64], 31) := by decide +kernel
theorem dX5_film_76 : decode cX5_film 76 = .ok (.aload_n 0, 1) := by decide +kernel
theorem dX5_film_77 : decode cX5_film 77 = .ok (.getfield 10, 3) := by decide +kernel
theorem dX5_film_80 : decode cX5_film 80 = .ok (.iconst 0, 1) := by decide +kernel
theorem dX5_film_81 : decode cX5_film 81 = .ok (.iconst 1, 1) := by decide +kernel
theorem dX5_film_82 : decode cX5_film 82 = .ok (.iload_n 1, 1) := by decide +kernel
theorem dX5_film_83 : decode cX5_film 83 = .ok (.invokevirtual 163, 3) := by decide +kernel
theorem dX5_film_86 : decode cX5_film 86 = .ok (.ireturn, 1) := by decide +kernel
theorem dX5_film_87 : decode cX5_film 87 = .ok (.aload_n 0, 1) := by decide +kernel
theorem dX5_film_88 : decode cX5_film 88 = .ok (.getfield 10, 3) := by decide +kernel
theorem dX5_film_91 : decode cX5_film 91 = .ok (.iconst 2, 1) := by decide +kernel
theorem dX5_film_92 : decode cX5_film 92 = .ok (.iconst 1, 1) := by decide +kernel
theorem dX5_film_93 : decode cX5_film 93 = .ok (.iload_n 1, 1) := by decide +kernel
theorem dX5_film_94 : decode cX5_film 94 = .ok (.invokevirtual 163, 3) := by decide +kernel
theorem dX5_film_97 : decode cX5_film 97 = .ok (.ireturn, 1) := by decide +kernel
theorem dX5_film_98 : decode cX5_film 98 = .ok (.aload_n 0, 1) := by decide +kernel
theorem dX5_film_99 : decode cX5_film 99 = .ok (.getfield 10, 3) := by decide +kernel
theorem dX5_film_102 : decode cX5_film 102 = .ok (.iconst 3, 1) := by decide +kernel
theorem dX5_film_103 : decode cX5_film 103 = .ok (.iconst 1, 1) := by decide +kernel
theorem dX5_film_104 : decode cX5_film 104 = .ok (.iload_n 1, 1) := by decide +kernel
theorem dX5_film_105 : decode cX5_film 105 = .ok (.invokevirtual 163, 3) := by decide +kernel
theorem dX5_film_108 : decode cX5_film 108 = .ok (.ireturn, 1) := by decide +kernel
theorem dX5_film_109 : decode cX5_film 109 = .ok (.aload_n 0, 1) := by decide +kernel
theorem dX5_film_110 : decode cX5_film 110 = .ok (.getfield 10, 3) := by decide +kernel
theorem dX5_film_113 : decode cX5_film 113 = .ok (.iconst 4, 1) := by decide +kernel
theorem dX5_film_114 : decode cX5_film 114 = .ok (.iconst 1, 1) := by decide +kernel
theorem dX5_film_115 : decode cX5_film 115 = .ok (.iload_n 1, 1) := by decide +kernel
theorem dX5_film_116 : decode cX5_film 116 = .ok (.invokevirtual 163, 3) := by decide +kernel
theorem dX5_film_119 : decode cX5_film 119 = .ok (.ireturn, 1) := by decide +kernel
theorem dX5_film_120 : decode cX5_film 120 = .ok (.aload_n 0, 1) := by decide +kernel
theorem dX5_film_121 : decode cX5_film 121 = .ok (.getfield 10, 3) := by decide +kernel
theorem dX5_film_124 : decode cX5_film 124 = .ok (.getfield 111, 3) := by decide +kernel
theorem dX5_film_127 : decode cX5_film 127 = .ok (.iload_n 1, 1) := by decide +kernel
theorem dX5_film_128 : decode cX5_film 128 = .ok (.iload_n 2, 1) := by decide +kernel
theorem dX5_film_129 : decode cX5_film 129 = .ok (.invokevirtual 126, 3) := by decide +kernel
theorem dX5_film_132 : decode cX5_film 132 = .ok (.ireturn, 1) := by decide +kernel
theorem dX5_share_0 : decode cX5_share 0 = .ok (.aload_n 0, 1) := by decide +kernel
theorem dX5_share_1 : decode cX5_share 1 = .ok (.getfield 10, 3) := by decide +kernel
theorem dX5_share_4 : decode cX5_share 4 = .ok (.getfield 111, 3) := by decide +kernel
theorem dX5_share_7 : decode cX5_share 7 = .ok (.iload_n 1, 1) := by decide +kernel
theorem dX5_share_8 : decode cX5_share 8 = .ok (.invokevirtual 116, 3) := by decide +kernel
theorem dX5_share_11 : decode cX5_share 11 = .ok (.ifCond .ne 13, 3) := by decide +kernel
theorem dX5_share_14 : decode cX5_share 14 = .ok (.new 119, 3) := by decide +kernel
theorem dX5_share_17 : decode cX5_share 17 = .ok (.dup, 1) := by decide +kernel
theorem dX5_share_18 : decode cX5_share 18 = .ok (.ldc 121, 2) := by decide +kernel
theorem dX5_share_20 : decode cX5_share 20 = .ok (.invokespecial 123, 3) := by decide +kernel
theorem dX5_share_23 : decode cX5_share 23 = .ok (.athrow, 1) := by decide +kernel
theorem dX5_share_24 : decode cX5_share 24 = .ok (.iload_n 2, 1) := by decide +kernel
theorem dX5_share_25 : decode cX5_share 25 = .ok (.invokestatic 108, 3) := by decide +kernel
theorem dX5_share_28 : decode cX5_share 28 = .ok (.ifCond .ne 13, 3) := by decide +kernel
theorem dX5_share_31 : decode cX5_share 31 = .ok (.new 68, 3) := by decide +kernel
theorem dX5_share_34 : decode cX5_share 34 = .ok (.dup, 1) := by decide +kernel
theorem dX5_share_35 : decode cX5_share 35 = .ok (.ldc 169, 2) := by decide +kernel
theorem dX5_share_37 : decode cX5_share 37 = .ok (.invokespecial 72, 3) := by decide +kernel
theorem dX5_share_40 : decode cX5_share 40 = .ok (.athrow, 1) := by decide +kernel
theorem dX5_share_41 : decode cX5_share 41 = .ok (.iload_n 2, 1) := by decide +kernel
theorem dX5_share_42 : decode cX5_share 42 = .ok (.aload_n 0, 1) := by decide +kernel
theorem dX5_share_43 : decode cX5_share 43 = .ok (.getfield 10, 3) := by decide +kernel
theorem dX5_share_46 : decode cX5_share 46 = .ok (.getfield 111, 3) := by decide +kernel
theorem dX5_share_49 : decode cX5_share 49 = .ok (.iload_n 1, 1) := by decide +kernel
theorem dX5_share_50 : decode cX5_share 50 = .ok (.iconst 4, 1) := by decide +kernel
theorem dX5_share_51 : decode cX5_share 51 = .ok (.invokevirtual 126, 3) := by decide +kernel
theorem dX5_share_54 : decode cX5_share 54 = .ok (.if_icmp .ge 13, 3) := by decide +kernel
theorem dX5_share_57 : decode cX5_share 57 = .ok (.new 171, 3) := by decide +kernel
theorem dX5_share_60 : decode cX5_share 60 = .ok (.dup, 1) := by decide +kernel
theorem dX5_share_61 : decode cX5_share 61 = .ok (.ldc 173, 2) := by decide +kernel
theorem dX5_share_63 : decode cX5_share 63 = .ok (.invokespecial 175, 3) := by decide +kernel
theorem dX5_share_66 : decode cX5_share 66 = .ok (.athrow, 1) := by decide +kernel
theorem dX5_share_67 : decode cX5_share 67 = .ok (.aload_n 0, 1) := by decide +kernel
theorem dX5_share_68 : decode cX5_share 68 = .ok (.getfield 10, 3) := by decide +kernel
theorem dX5_share_71 : decode cX5_share 71 = .ok (.iload_n 1, 1) := by decide +kernel
theorem dX5_share_72 : decode cX5_share 72 = .ok (.iload_n 2, 1) := by decide +kernel
theorem dX5_share_73 : decode cX5_share 73 = .ok (.invokevirtual 176, 3) := by decide +kernel
theorem dX5_share_76 : decode cX5_share 76 = .ok (.ireturn, 1) := by decide +kernel
theorem dX5_trailer_0 : decode cX5_trailer 0 = .ok (.aload_n 0, 1) := by decide +kernel
theorem dX5_trailer_1 : decode cX5_trailer 1 = .ok (.getfield 10, 3) := by decide +kernel
theorem dX5_trailer_4 : decode cX5_trailer 4 = .ok (.getfield 130, 3) := by decide +kernel
theorem dX5_trailer_7 : decode cX5_trailer 7 = .ok (.iload_n 1, 1) := by decide +kernel
theorem dX5_trailer_8 : decode cX5_trailer 8 = .ok (.invokevirtual 116, 3) := by decide +kernel
theorem dX5_trailer_11 : decode cX5_trailer 11 = .ok (.ifCond .ne 13, 3) := by decide +kernel
theorem dX5_trailer_14 : decode cX5_trailer 14 = .ok (.new 119, 3) := by decide +kernel
theorem dX5_trailer_17 : decode cX5_trailer 17 = .ok (.dup, 1) := by decide +kernel
theorem dX5_trailer_18 : decode cX5_trailer 18 = .ok (.ldc 179, 2) := by decide +kernel
theorem dX5_trailer_20 : decode cX5_trailer 20 = .ok (.invokespecial 123, 3) := by decide +kernel
theorem dX5_trailer_23 : decode cX5_trailer 23 = .ok (.athrow, 1) := by decide +kernel
theorem dX5_trailer_24 : decode cX5_trailer 24 = .ok (.iload_n 2, 1) := by decide +kernel
theorem dX5_trailer_25 : decode cX5_trailer 25 = .ok (.iconst 0, 1) := by decide +kernel
theorem dX5_trailer_26 : decode cX5_trailer 26 = .ok (.iconst 3, 1) := by decide +kernel
theorem dX5_trailer_27 : decode cX5_trailer 27 = .ok (.invokestatic 64, 3) := by decide +kernel
theorem dX5_trailer_30 : decode cX5_trailer 30 = .ok (.ifCond .ne 13, 3) := by decide +kernel
theorem dX5_trailer_33 : decode cX5_trailer 33 = .ok (.new 68, 3) := by decide +kernel
theorem dX5_trailer_36 : decode cX5_trailer 36 = .ok (.dup, 1) := by decide +kernel
theorem dX5_trailer_37 : decode cX5_trailer 37 = .ok (.ldc 181, 2) := by decide +kernel
theorem dX5_trailer_39 : decode cX5_trailer 39 = .ok (.invokespecial 72, 3) := by decide +kernel
theorem dX5_trailer_42 : decode cX5_trailer 42 = .ok (.athrow, 1) := by decide +kernel
theorem dX5_trailer_43 : decode cX5_trailer 43 = .ok (.aload_n 0, 1) := by decide +kernel
theorem dX5_trailer_44 : decode cX5_trailer 44 = .ok (.getfield 10, 3) := by decide +kernel
theorem dX5_trailer_47 : decode cX5_trailer 47 = .ok (.getfield 130, 3) := by decide +kernel
theorem dX5_trailer_50 : decode cX5_trailer 50 = .ok (.iload_n 1, 1) := by decide +kernel
theorem dX5_trailer_51 : decode cX5_trailer 51 = .ok (.iload_n 2, 1) := by decide +kernel
theorem dX5_trailer_52 : decode cX5_trailer 52 = .ok (.invokevirtual 126, 3) := by decide +kernel
theorem dX5_trailer_55 : decode cX5_trailer 55 = .ok (.ireturn, 1) := by decide +kernel
theorem dX5_fits_0 : decode cX5_fits 0 = .ok (.aload_n 0, 1) := by decide +kernel
theorem dX5_fits_1 : decode cX5_fits 1 = .ok (.getfield 10, 3) := by decide +kernel
theorem dX5_fits_4 : decode cX5_fits 4 = .ok (.getfield 130, 3) := by decide +kernel
theorem dX5_fits_7 : decode cX5_fits 7 = .ok (.iload_n 1, 1) := by decide +kernel
theorem dX5_fits_8 : decode cX5_fits 8 = .ok (.invokevirtual 116, 3) := by decide +kernel
theorem dX5_fits_11 : decode cX5_fits 11 = .ok (.ifCond .eq 17, 3) := by decide +kernel
theorem dX5_fits_14 : decode cX5_fits 14 = .ok (.aload_n 0, 1) := by decide +kernel
theorem dX5_fits_15 : decode cX5_fits 15 = .ok (.getfield 10, 3) := by decide +kernel
theorem dX5_fits_18 : decode cX5_fits 18 = .ok (.getfield 111, 3) := by decide +kernel
theorem dX5_fits_21 : decode cX5_fits 21 = .ok (.iload_n 2, 1) := by decide +kernel
theorem dX5_fits_22 : decode cX5_fits 22 = .ok (.invokevirtual 116, 3) := by decide +kernel
theorem dX5_fits_25 : decode cX5_fits 25 = .ok (.ifCond .ne 13, 3) := by decide +kernel
theorem dX5_fits_28 : decode cX5_fits 28 = .ok (.new 119, 3) := by decide +kernel
theorem dX5_fits_31 : decode cX5_fits 31 = .ok (.dup, 1) := by decide +kernel
theorem dX5_fits_32 : decode cX5_fits 32 = .ok (.ldc 183, 2) := by decide +kernel
theorem dX5_fits_34 : decode cX5_fits 34 = .ok (.invokespecial 123, 3) := by decide +kernel
theorem dX5_fits_37 : decode cX5_fits 37 = .ok (.athrow, 1) := by decide +kernel
theorem dX5_fits_38 : decode cX5_fits 38 = .ok (.iload_n 3, 1) := by decide +kernel
theorem dX5_fits_39 : decode cX5_fits 39 = .ok (.invokestatic 108, 3) := by decide +kernel
theorem dX5_fits_42 : decode cX5_fits 42 = .ok (.ifCond .ne 13, 3) := by decide +kernel
theorem dX5_fits_45 : decode cX5_fits 45 = .ok (.new 68, 3) := by decide +kernel
theorem dX5_fits_48 : decode cX5_fits 48 = .ok (.dup, 1) := by decide +kernel
theorem dX5_fits_49 : decode cX5_fits 49 = .ok (.ldc 169, 2) := by decide +kernel
theorem dX5_fits_51 : decode cX5_fits 51 = .ok (.invokespecial 72, 3) := by decide +kernel
theorem dX5_fits_54 : decode cX5_fits 54 = .ok (.athrow, 1) := by decide +kernel
theorem dX5_fits_55 : decode cX5_fits 55 = .ok (.aload_n 0, 1) := by decide +kernel
theorem dX5_fits_56 : decode cX5_fits 56 = .ok (.getfield 10, 3) := by decide +kernel
theorem dX5_fits_59 : decode cX5_fits 59 = .ok (.iload_n 1, 1) := by decide +kernel
theorem dX5_fits_60 : decode cX5_fits 60 = .ok (.iload_n 2, 1) := by decide +kernel
theorem dX5_fits_61 : decode cX5_fits 61 = .ok (.iload_n 3, 1) := by decide +kernel
theorem dX5_fits_62 : decode cX5_fits 62 = .ok (.invokevirtual 185, 3) := by decide +kernel
theorem dX5_fits_65 : decode cX5_fits 65 = .ok (.ireturn, 1) := by decide +kernel
theorem dX5_reel_0 : decode cX5_reel 0 = .ok (.aload_n 0, 1) := by decide +kernel
theorem dX5_reel_1 : decode cX5_reel 1 = .ok (.getfield 10, 3) := by decide +kernel
theorem dX5_reel_4 : decode cX5_reel 4 = .ok (.getfield 111, 3) := by decide +kernel
theorem dX5_reel_7 : decode cX5_reel 7 = .ok (.iload_n 1, 1) := by decide +kernel
theorem dX5_reel_8 : decode cX5_reel 8 = .ok (.invokevirtual 116, 3) := by decide +kernel
theorem dX5_reel_11 : decode cX5_reel 11 = .ok (.ifCond .ne 13, 3) := by decide +kernel
theorem dX5_reel_14 : decode cX5_reel 14 = .ok (.new 119, 3) := by decide +kernel
theorem dX5_reel_17 : decode cX5_reel 17 = .ok (.dup, 1) := by decide +kernel
theorem dX5_reel_18 : decode cX5_reel 18 = .ok (.ldc 121, 2) := by decide +kernel
theorem dX5_reel_20 : decode cX5_reel 20 = .ok (.invokespecial 123, 3) := by decide +kernel
theorem dX5_reel_23 : decode cX5_reel 23 = .ok (.athrow, 1) := by decide +kernel
theorem dX5_reel_24 : decode cX5_reel 24 = .ok (.iload_n 2, 1) := by decide +kernel
theorem dX5_reel_25 : decode cX5_reel 25 = .ok (.invokestatic 108, 3) := by decide +kernel
theorem dX5_reel_28 : decode cX5_reel 28 = .ok (.ifCond .ne 13, 3) := by decide +kernel
theorem dX5_reel_31 : decode cX5_reel 31 = .ok (.new 68, 3) := by decide +kernel
theorem dX5_reel_34 : decode cX5_reel 34 = .ok (.dup, 1) := by decide +kernel
theorem dX5_reel_35 : decode cX5_reel 35 = .ok (.ldc 169, 2) := by decide +kernel
theorem dX5_reel_37 : decode cX5_reel 37 = .ok (.invokespecial 72, 3) := by decide +kernel
theorem dX5_reel_40 : decode cX5_reel 40 = .ok (.athrow, 1) := by decide +kernel
theorem dX5_reel_41 : decode cX5_reel 41 = .ok (.aload_n 0, 1) := by decide +kernel
theorem dX5_reel_42 : decode cX5_reel 42 = .ok (.getfield 10, 3) := by decide +kernel
theorem dX5_reel_45 : decode cX5_reel 45 = .ok (.iload_n 1, 1) := by decide +kernel
theorem dX5_reel_46 : decode cX5_reel 46 = .ok (.iload_n 2, 1) := by decide +kernel
theorem dX5_reel_47 : decode cX5_reel 47 = .ok (.invokevirtual 188, 3) := by decide +kernel
theorem dX5_reel_50 : decode cX5_reel 50 = .ok (.istore 4, 2) := by decide +kernel
theorem dX5_reel_52 : decode cX5_reel 52 = .ok (.iload_n 3, 1) := by decide +kernel
theorem dX5_reel_53 : decode cX5_reel 53 = .ok (.ifCond .eq 15, 3) := by decide +kernel
theorem dX5_reel_56 : decode cX5_reel 56 = .ok (.aload_n 0, 1) := by decide +kernel
theorem dX5_reel_57 : decode cX5_reel 57 = .ok (.getfield 10, 3) := by decide +kernel
theorem dX5_reel_60 : decode cX5_reel 60 = .ok (.iload 4, 2) := by decide +kernel
theorem dX5_reel_62 : decode cX5_reel 62 = .ok (.invokevirtual 191, 3) := by decide +kernel
theorem dX5_reel_65 : decode cX5_reel 65 = .ok (.goto 5, 3) := by decide +kernel
theorem dX5_reel_68 : decode cX5_reel 68 = .ok (.iload 4, 2) := by decide +kernel
theorem dX5_reel_70 : decode cX5_reel 70 = .ok (.ireturn, 1) := by decide +kernel
theorem dX5_plan_0 : decode cX5_plan 0 = .ok (.aload_n 0, 1) := by decide +kernel
theorem dX5_plan_1 : decode cX5_plan 1 = .ok (.iload_n 1, 1) := by decide +kernel
theorem dX5_plan_2 : decode cX5_plan 2 = .ok (.iload_n 2, 1) := by decide +kernel
theorem dX5_plan_3 : decode cX5_plan 3 = .ok (.iload_n 3, 1) := by decide +kernel
theorem dX5_plan_4 : decode cX5_plan 4 = .ok (.iload 4, 2) := by decide +kernel
theorem dX5_plan_6 : decode cX5_plan 6 = .ok (.invokevirtual 194, 3) := by decide +kernel
theorem dX5_plan_9 : decode cX5_plan 9 = .ok (.istore 5, 2) := by decide +kernel
theorem dX5_plan_11 : decode cX5_plan 11 = .ok (.iload 5, 2) := by decide +kernel
theorem dX5_plan_13 : decode cX5_plan 13 = .ok (.iconst 1, 1) := by decide +kernel
theorem dX5_plan_14 : decode cX5_plan 14 = .ok (.if_icmp .ne 13, 3) := by decide +kernel
theorem dX5_plan_17 : decode cX5_plan 17 = .ok (.new 119, 3) := by decide +kernel
theorem dX5_plan_20 : decode cX5_plan 20 = .ok (.dup, 1) := by decide +kernel
theorem dX5_plan_21 : decode cX5_plan 21 = .ok (.ldc 198, 2) := by decide +kernel
theorem dX5_plan_23 : decode cX5_plan 23 = .ok (.invokespecial 123, 3) := by decide +kernel
theorem dX5_plan_26 : decode cX5_plan 26 = .ok (.athrow, 1) := by decide +kernel
theorem dX5_plan_27 : decode cX5_plan 27 = .ok (.iload 5, 2) := by decide +kernel
theorem dX5_plan_29 : decode cX5_plan 29 = .ok (.iconst 2, 1) := by decide +kernel
theorem dX5_plan_30 : decode cX5_plan 30 = .ok (.if_icmp .ne 13, 3) := by decide +kernel
theorem dX5_plan_33 : decode cX5_plan 33 = .ok (.new 68, 3) := by decide +kernel
theorem dX5_plan_36 : decode cX5_plan 36 = .ok (.dup, 1) := by decide +kernel
theorem dX5_plan_37 : decode cX5_plan 37 = .ok (.ldc 200, 2) := by decide +kernel
theorem dX5_plan_39 : decode cX5_plan 39 = .ok (.invokespecial 72, 3) := by decide +kernel
theorem dX5_plan_42 : decode cX5_plan 42 = .ok (.athrow, 1) := by decide +kernel
theorem dX5_plan_43 : decode cX5_plan 43 = .ok (.iload 5, 2) := by decide +kernel
theorem dX5_plan_45 : decode cX5_plan 45 = .ok (.iconst 4, 1) := by decide +kernel
theorem dX5_plan_46 : decode cX5_plan 46 = .ok (.if_icmp .ne 13, 3) := by decide +kernel
theorem dX5_plan_49 : decode cX5_plan 49 = .ok (.new 202, 3) := by decide +kernel
theorem dX5_plan_52 : decode cX5_plan 52 = .ok (.dup, 1) := by decide +kernel
theorem dX5_plan_53 : decode cX5_plan 53 = .ok (.ldc 204, 2) := by decide +kernel
theorem dX5_plan_55 : decode cX5_plan 55 = .ok (.invokespecial 206, 3) := by decide +kernel
theorem dX5_plan_58 : decode cX5_plan 58 = .ok (.athrow, 1) := by decide +kernel
theorem dX5_plan_59 : decode cX5_plan 59 = .ok (.aload_n 0, 1) := by decide +kernel
theorem dX5_plan_60 : decode cX5_plan 60 = .ok (.getfield 22, 3) := by decide +kernel
theorem dX5_plan_63 : decode cX5_plan 63 = .ok (.aload_n 0, 1) := by decide +kernel
theorem dX5_plan_64 : decode cX5_plan 64 = .ok (.getfield 10, 3) := by decide +kernel
theorem dX5_plan_67 : decode cX5_plan 67 = .ok (.invokevirtual 90, 3) := by decide +kernel
theorem dX5_plan_70 : decode cX5_plan 70 = .ok (.aload_n 0, 1) := by decide +kernel
theorem dX5_plan_71 : decode cX5_plan 71 = .ok (.getfield 10, 3) := by decide +kernel
theorem dX5_plan_74 : decode cX5_plan 74 = .ok (.iload_n 1, 1) := by decide +kernel
theorem dX5_plan_75 : decode cX5_plan 75 = .ok (.iload_n 2, 1) := by decide +kernel
theorem dX5_plan_76 : decode cX5_plan 76 = .ok (.iload_n 3, 1) := by decide +kernel
theorem dX5_plan_77 : decode cX5_plan 77 = .ok (.iload 4, 2) := by decide +kernel
theorem dX5_plan_79 : decode cX5_plan 79 = .ok (.invokevirtual 207, 3) := by decide +kernel
theorem dX5_plan_82 : decode cX5_plan 82 = .ok (.ireturn, 1) := by decide +kernel
theorem dX5_move_0 : decode cX5_move 0 = .ok (.aload_n 0, 1) := by decide +kernel
theorem dX5_move_1 : decode cX5_move 1 = .ok (.getfield 10, 3) := by decide +kernel
theorem dX5_move_4 : decode cX5_move 4 = .ok (.getfield 210, 3) := by decide +kernel
theorem dX5_move_7 : decode cX5_move 7 = .ok (.iload_n 1, 1) := by decide +kernel
theorem dX5_move_8 : decode cX5_move 8 = .ok (.invokevirtual 116, 3) := by decide +kernel
theorem dX5_move_11 : decode cX5_move 11 = .ok (.ifCond .eq 17, 3) := by decide +kernel
theorem dX5_move_14 : decode cX5_move 14 = .ok (.aload_n 0, 1) := by decide +kernel
theorem dX5_move_15 : decode cX5_move 15 = .ok (.getfield 10, 3) := by decide +kernel
theorem dX5_move_18 : decode cX5_move 18 = .ok (.getfield 75, 3) := by decide +kernel
theorem dX5_move_21 : decode cX5_move 21 = .ok (.iload_n 2, 1) := by decide +kernel
theorem dX5_move_22 : decode cX5_move 22 = .ok (.invokevirtual 116, 3) := by decide +kernel
theorem dX5_move_25 : decode cX5_move 25 = .ok (.ifCond .ne 13, 3) := by decide +kernel
theorem dX5_move_28 : decode cX5_move 28 = .ok (.new 119, 3) := by decide +kernel
theorem dX5_move_31 : decode cX5_move 31 = .ok (.dup, 1) := by decide +kernel
theorem dX5_move_32 : decode cX5_move 32 = .ok (.ldc 213, 2) := by decide +kernel
theorem dX5_move_34 : decode cX5_move 34 = .ok (.invokespecial 123, 3) := by decide +kernel
theorem dX5_move_37 : decode cX5_move 37 = .ok (.athrow, 1) := by decide +kernel
theorem dX5_move_38 : decode cX5_move 38 = .ok (.iload_n 3, 1) := by decide +kernel
theorem dX5_move_39 : decode cX5_move 39 = .ok (.invokestatic 215, 3) := by decide +kernel
theorem dX5_move_42 : decode cX5_move 42 = .ok (.ifCond .ne 13, 3) := by decide +kernel
theorem dX5_move_45 : decode cX5_move 45 = .ok (.new 68, 3) := by decide +kernel
theorem dX5_move_48 : decode cX5_move 48 = .ok (.dup, 1) := by decide +kernel
theorem dX5_move_49 : decode cX5_move 49 = .ok (.ldc 218, 2) := by decide +kernel
theorem dX5_move_51 : decode cX5_move 51 = .ok (.invokespecial 72, 3) := by decide +kernel
theorem dX5_move_54 : decode cX5_move 54 = .ok (.athrow, 1) := by decide +kernel
theorem dX5_move_55 : decode cX5_move 55 = .ok (.aload_n 0, 1) := by decide +kernel
theorem dX5_move_56 : decode cX5_move 56 = .ok (.getfield 10, 3) := by decide +kernel
theorem dX5_move_59 : decode cX5_move 59 = .ok (.iload_n 1, 1) := by decide +kernel
theorem dX5_move_60 : decode cX5_move 60 = .ok (.invokevirtual 220, 3) := by decide +kernel
theorem dX5_move_63 : decode cX5_move 63 = .ok (.ifCond .ne 13, 3) := by decide +kernel
theorem dX5_move_66 : decode cX5_move 66 = .ok (.new 85, 3) := by decide +kernel
theorem dX5_move_69 : decode cX5_move 69 = .ok (.dup, 1) := by decide +kernel
theorem dX5_move_70 : decode cX5_move 70 = .ok (.ldc 223, 2) := by decide +kernel
theorem dX5_move_72 : decode cX5_move 72 = .ok (.invokespecial 89, 3) := by decide +kernel
theorem dX5_move_75 : decode cX5_move 75 = .ok (.athrow, 1) := by decide +kernel
theorem dX5_move_76 : decode cX5_move 76 = .ok (.aload_n 0, 1) := by decide +kernel
theorem dX5_move_77 : decode cX5_move 77 = .ok (.iload_n 1, 1) := by decide +kernel
theorem dX5_move_78 : decode cX5_move 78 = .ok (.iload_n 2, 1) := by decide +kernel
theorem dX5_move_79 : decode cX5_move 79 = .ok (.iload_n 3, 1) := by decide +kernel
theorem dX5_move_80 : decode cX5_move 80 = .ok (.invokevirtual 225, 3) := by decide +kernel
theorem dX5_move_83 : decode cX5_move 83 = .ok (.ifCond .eq 13, 3) := by decide +kernel
theorem dX5_move_86 : decode cX5_move 86 = .ok (.new 202, 3) := by decide +kernel
theorem dX5_move_89 : decode cX5_move 89 = .ok (.dup, 1) := by decide +kernel
theorem dX5_move_90 : decode cX5_move 90 = .ok (.ldc 228, 2) := by decide +kernel
theorem dX5_move_92 : decode cX5_move 92 = .ok (.invokespecial 206, 3) := by decide +kernel
theorem dX5_move_95 : decode cX5_move 95 = .ok (.athrow, 1) := by decide +kernel
theorem dX5_move_96 : decode cX5_move 96 = .ok (.aload_n 0, 1) := by decide +kernel
theorem dX5_move_97 : decode cX5_move 97 = .ok (.getfield 22, 3) := by decide +kernel
theorem dX5_move_100 : decode cX5_move 100 = .ok (.aload_n 0, 1) := by decide +kernel
theorem dX5_move_101 : decode cX5_move 101 = .ok (.getfield 10, 3) := by decide +kernel
theorem dX5_move_104 : decode cX5_move 104 = .ok (.invokevirtual 90, 3) := by decide +kernel
theorem dX5_move_107 : decode cX5_move 107 = .ok (.aload_n 0, 1) := by decide +kernel
theorem dX5_move_108 : decode cX5_move 108 = .ok (.getfield 10, 3) := by decide +kernel
theorem dX5_move_111 : decode cX5_move 111 = .ok (.getfield 210, 3) := by decide +kernel
theorem dX5_move_114 : decode cX5_move 114 = .ok (.iload_n 1, 1) := by decide +kernel
theorem dX5_move_115 : decode cX5_move 115 = .ok (.iconst 3, 1) := by decide +kernel
theorem dX5_move_116 : decode cX5_move 116 = .ok (.invokevirtual 126, 3) := by decide +kernel
theorem dX5_move_119 : decode cX5_move 119 = .ok (.istore 4, 2) := by decide +kernel
theorem dX5_move_121 : decode cX5_move 121 = .ok (.aload_n 0, 1) := by decide +kernel
theorem dX5_move_122 : decode cX5_move 122 = .ok (.getfield 10, 3) := by decide +kernel
theorem dX5_move_125 : decode cX5_move 125 = .ok (.iload_n 1, 1) := by decide +kernel
theorem dX5_move_126 : decode cX5_move 126 = .ok (.iload_n 2, 1) := by decide +kernel
theorem dX5_move_127 : decode cX5_move 127 = .ok (.iload_n 3, 1) := by decide +kernel
theorem dX5_move_128 : decode cX5_move 128 = .ok (.invokevirtual 230, 3) := by decide +kernel
theorem dX5_move_131 : decode cX5_move 131 = .ok (.iload_n 3, 1) := by decide +kernel
theorem dX5_move_132 : decode cX5_move 132 = .ok (.iload 4, 2) := by decide +kernel
theorem dX5_move_134 : decode cX5_move 134 = .ok (.isub, 1) := by decide +kernel
theorem dX5_move_135 : decode cX5_move 135 = .ok (.invokestatic 233, 3) := by decide +kernel
theorem dX5_move_138 : decode cX5_move 138 = .ok (.ireturn, 1) := by decide +kernel
theorem dX5_cancel_0 : decode cX5_cancel 0 = .ok (.aload_n 0, 1) := by decide +kernel
theorem dX5_cancel_1 : decode cX5_cancel 1 = .ok (.iload_n 1, 1) := by decide +kernel
theorem dX5_cancel_2 : decode cX5_cancel 2 = .ok (.invokevirtual 238, 3) := by decide +kernel
theorem dX5_cancel_5 : decode cX5_cancel 5 = .ok (.istore_n 2, 1) := by decide +kernel
theorem dX5_cancel_6 : decode cX5_cancel 6 = .ok (.iload_n 2, 1) := by decide +kernel
theorem dX5_cancel_7 : decode cX5_cancel 7 = .ok (.iconst 1, 1) := by decide +kernel
theorem dX5_cancel_8 : decode cX5_cancel 8 = .ok (.if_icmp .ne 13, 3) := by decide +kernel
theorem dX5_cancel_11 : decode cX5_cancel 11 = .ok (.new 119, 3) := by decide +kernel
theorem dX5_cancel_14 : decode cX5_cancel 14 = .ok (.dup, 1) := by decide +kernel
theorem dX5_cancel_15 : decode cX5_cancel 15 = .ok (.ldc 241, 2) := by decide +kernel
theorem dX5_cancel_17 : decode cX5_cancel 17 = .ok (.invokespecial 123, 3) := by decide +kernel
theorem dX5_cancel_20 : decode cX5_cancel 20 = .ok (.athrow, 1) := by decide +kernel
theorem dX5_cancel_21 : decode cX5_cancel 21 = .ok (.iload_n 2, 1) := by decide +kernel
theorem dX5_cancel_22 : decode cX5_cancel 22 = .ok (.iconst 3, 1) := by decide +kernel
theorem dX5_cancel_23 : decode cX5_cancel 23 = .ok (.if_icmp .ne 13, 3) := by decide +kernel
theorem dX5_cancel_26 : decode cX5_cancel 26 = .ok (.new 85, 3) := by decide +kernel
theorem dX5_cancel_29 : decode cX5_cancel 29 = .ok (.dup, 1) := by decide +kernel
theorem dX5_cancel_30 : decode cX5_cancel 30 = .ok (.ldc 223, 2) := by decide +kernel
theorem dX5_cancel_32 : decode cX5_cancel 32 = .ok (.invokespecial 89, 3) := by decide +kernel
theorem dX5_cancel_35 : decode cX5_cancel 35 = .ok (.athrow, 1) := by decide +kernel
theorem dX5_cancel_36 : decode cX5_cancel 36 = .ok (.aload_n 0, 1) := by decide +kernel
theorem dX5_cancel_37 : decode cX5_cancel 37 = .ok (.getfield 22, 3) := by decide +kernel
theorem dX5_cancel_40 : decode cX5_cancel 40 = .ok (.aload_n 0, 1) := by decide +kernel
theorem dX5_cancel_41 : decode cX5_cancel 41 = .ok (.getfield 10, 3) := by decide +kernel
theorem dX5_cancel_44 : decode cX5_cancel 44 = .ok (.invokevirtual 90, 3) := by decide +kernel
theorem dX5_cancel_47 : decode cX5_cancel 47 = .ok (.aload_n 0, 1) := by decide +kernel
theorem dX5_cancel_48 : decode cX5_cancel 48 = .ok (.getfield 10, 3) := by decide +kernel
theorem dX5_cancel_51 : decode cX5_cancel 51 = .ok (.iload_n 1, 1) := by decide +kernel
theorem dX5_cancel_52 : decode cX5_cancel 52 = .ok (.invokevirtual 243, 3) := by decide +kernel
theorem dX5_cancel_55 : decode cX5_cancel 55 = .ok (.ireturn, 1) := by decide +kernel
theorem dX5_sell_0 : decode cX5_sell 0 = .ok (.aload_n 0, 1) := by decide +kernel
theorem dX5_sell_1 : decode cX5_sell 1 = .ok (.iload_n 1, 1) := by decide +kernel
theorem dX5_sell_2 : decode cX5_sell 2 = .ok (.iload_n 2, 1) := by decide +kernel
theorem dX5_sell_3 : decode cX5_sell 3 = .ok (.invokevirtual 246, 3) := by decide +kernel
theorem dX5_sell_6 : decode cX5_sell 6 = .ok (.istore_n 3, 1) := by decide +kernel
theorem dX5_sell_7 : decode cX5_sell 7 = .ok (.iload_n 3, 1) := by decide +kernel
theorem dX5_sell_8 : decode cX5_sell 8 = .ok (.iconst 1, 1) := by decide +kernel
theorem dX5_sell_9 : decode cX5_sell 9 = .ok (.if_icmp .ne 13, 3) := by decide +kernel
theorem dX5_sell_12 : decode cX5_sell 12 = .ok (.new 119, 3) := by decide +kernel
theorem dX5_sell_15 : decode cX5_sell 15 = .ok (.dup, 1) := by decide +kernel
theorem dX5_sell_16 : decode cX5_sell 16 = .ok (.ldc 241, 2) := by decide +kernel
theorem dX5_sell_18 : decode cX5_sell 18 = .ok (.invokespecial 123, 3) := by decide +kernel
theorem dX5_sell_21 : decode cX5_sell 21 = .ok (.athrow, 1) := by decide +kernel
theorem dX5_sell_22 : decode cX5_sell 22 = .ok (.iload_n 3, 1) := by decide +kernel
theorem dX5_sell_23 : decode cX5_sell 23 = .ok (.iconst 2, 1) := by decide +kernel
theorem dX5_sell_24 : decode cX5_sell 24 = .ok (.if_icmp .ne 13, 3) := by decide +kernel
theorem dX5_sell_27 : decode cX5_sell 27 = .ok (.new 68, 3) := by decide +kernel
theorem dX5_sell_30 : decode cX5_sell 30 = .ok (.dup, 1) := by decide +kernel
theorem dX5_sell_31 : decode cX5_sell 31 = .ok (.ldc 249, 2) := by decide +kernel
theorem dX5_sell_33 : decode cX5_sell 33 = .ok (.invokespecial 72, 3) := by decide +kernel
theorem dX5_sell_36 : decode cX5_sell 36 = .ok (.athrow, 1) := by decide +kernel
theorem dX5_sell_37 : decode cX5_sell 37 = .ok (.iload_n 3, 1) := by decide +kernel
theorem dX5_sell_38 : decode cX5_sell 38 = .ok (.iconst 3, 1) := by decide +kernel
theorem dX5_sell_39 : decode cX5_sell 39 = .ok (.if_icmp .ne 13, 3) := by decide +kernel
theorem dX5_sell_42 : decode cX5_sell 42 = .ok (.new 85, 3) := by decide +kernel
theorem dX5_sell_45 : decode cX5_sell 45 = .ok (.dup, 1) := by decide +kernel
theorem dX5_sell_46 : decode cX5_sell 46 = .ok (.ldc 223, 2) := by decide +kernel
theorem dX5_sell_48 : decode cX5_sell 48 = .ok (.invokespecial 89, 3) := by decide +kernel
theorem dX5_sell_51 : decode cX5_sell 51 = .ok (.athrow, 1) := by decide +kernel
theorem dX5_sell_52 : decode cX5_sell 52 = .ok (.iload_n 3, 1) := by decide +kernel
theorem dX5_sell_53 : decode cX5_sell 53 = .ok (.iconst 4, 1) := by decide +kernel
theorem dX5_sell_54 : decode cX5_sell 54 = .ok (.if_icmp .ne 13, 3) := by decide +kernel
theorem dX5_sell_57 : decode cX5_sell 57 = .ok (.new 202, 3) := by decide +kernel
theorem dX5_sell_60 : decode cX5_sell 60 = .ok (.dup, 1) := by decide +kernel
theorem dX5_sell_61 : decode cX5_sell 61 = .ok (.ldc 251, 2) := by decide +kernel
theorem dX5_sell_63 : decode cX5_sell 63 = .ok (.invokespecial 206, 3) := by decide +kernel
theorem dX5_sell_66 : decode cX5_sell 66 = .ok (.athrow, 1) := by decide +kernel
theorem dX5_sell_67 : decode cX5_sell 67 = .ok (.aload_n 0, 1) := by decide +kernel
theorem dX5_sell_68 : decode cX5_sell 68 = .ok (.getfield 22, 3) := by decide +kernel
theorem dX5_sell_71 : decode cX5_sell 71 = .ok (.aload_n 0, 1) := by decide +kernel
theorem dX5_sell_72 : decode cX5_sell 72 = .ok (.getfield 10, 3) := by decide +kernel
theorem dX5_sell_75 : decode cX5_sell 75 = .ok (.invokevirtual 90, 3) := by decide +kernel
theorem dX5_sell_78 : decode cX5_sell 78 = .ok (.aload_n 0, 1) := by decide +kernel
theorem dX5_sell_79 : decode cX5_sell 79 = .ok (.getfield 10, 3) := by decide +kernel
theorem dX5_sell_82 : decode cX5_sell 82 = .ok (.iload_n 1, 1) := by decide +kernel
theorem dX5_sell_83 : decode cX5_sell 83 = .ok (.iload_n 2, 1) := by decide +kernel
theorem dX5_sell_84 : decode cX5_sell 84 = .ok (.invokevirtual 253, 3) := by decide +kernel
theorem dX5_sell_87 : decode cX5_sell 87 = .ok (.ireturn, 1) := by decide +kernel
theorem dX5_show_0 : decode cX5_show 0 = .ok (.aload_n 0, 1) := by decide +kernel
theorem dX5_show_1 : decode cX5_show 1 = .ok (.getfield 10, 3) := by decide +kernel
theorem dX5_show_4 : decode cX5_show 4 = .ok (.getfield 210, 3) := by decide +kernel
theorem dX5_show_7 : decode cX5_show 7 = .ok (.iload_n 1, 1) := by decide +kernel
theorem dX5_show_8 : decode cX5_show 8 = .ok (.invokevirtual 116, 3) := by decide +kernel
theorem dX5_show_11 : decode cX5_show 11 = .ok (.ifCond .ne 13, 3) := by decide +kernel
theorem dX5_show_14 : decode cX5_show 14 = .ok (.new 119, 3) := by decide +kernel
theorem dX5_show_17 : decode cX5_show 17 = .ok (.dup, 1) := by decide +kernel
theorem dX5_show_18 : decode cX5_show 18 = .ok (.ldc 241, 2) := by decide +kernel
theorem dX5_show_20 : decode cX5_show 20 = .ok (.invokespecial 123, 3) := by decide +kernel
theorem dX5_show_23 : decode cX5_show 23 = .ok (.athrow, 1) := by decide +kernel
theorem dX5_show_24 : decode cX5_show 24 = .ok (.iload_n 2, 1) := by decide +kernel
theorem dX5_show_25 : decode cX5_show 25 = .ok (.iconst 0, 1) := by decide +kernel
theorem dX5_show_26 : decode cX5_show 26 = .ok (.bipush 11, 2) := by decide +kernel
theorem dX5_show_28 : decode cX5_show 28 = .ok (.invokestatic 64, 3) := by decide +kernel
theorem dX5_show_31 : decode cX5_show 31 = .ok (.ifCond .ne 13, 3) := by decide +kernel
theorem dX5_show_34 : decode cX5_show 34 = .ok (.new 68, 3) := by decide +kernel
theorem dX5_show_37 : decode cX5_show 37 = .ok (.dup, 1) := by decide +kernel
theorem dX5_show_38 : decode cX5_show 38 = .ok (.ldc 167, 2) := by decide +kernel
theorem dX5_show_40 : decode cX5_show 40 = .ok (.invokespecial 72, 3) := by decide +kernel
theorem dX5_show_43 : decode cX5_show 43 = .ok (.athrow, 1) := by decide +kernel
theorem dX5_show_44 : decode cX5_show 44 = .ok (.iload_n 2, 1) := by decide +kernel
theorem dX5_show_45 : decode cX5_show 45 = .ok (.tableswitch 54 8 10 #[27, 36, 45], 27) := by decide +kernel
theorem dX5_show_72 : decode cX5_show 72 = .ok (.aload_n 0, 1) := by decide +kernel
theorem dX5_show_73 : decode cX5_show 73 = .ok (.getfield 10, 3) := by decide +kernel
theorem dX5_show_76 : decode cX5_show 76 = .ok (.iload_n 1, 1) := by decide +kernel
theorem dX5_show_77 : decode cX5_show 77 = .ok (.invokevirtual 256, 3) := by decide +kernel
theorem dX5_show_80 : decode cX5_show 80 = .ok (.ireturn, 1) := by decide +kernel
theorem dX5_show_81 : decode cX5_show 81 = .ok (.aload_n 0, 1) := by decide +kernel
theorem dX5_show_82 : decode cX5_show 82 = .ok (.getfield 10, 3) := by decide +kernel
theorem dX5_show_85 : decode cX5_show 85 = .ok (.iload_n 1, 1) := by decide +kernel
theorem dX5_show_86 : decode cX5_show 86 = .ok (.invokevirtual 259, 3) := by decide +kernel
theorem dX5_show_89 : decode cX5_show 89 = .ok (.ireturn, 1) := by decide +kernel
theorem dX5_show_90 : decode cX5_show 90 = .ok (.aload_n 0, 1) := by decide +kernel
theorem dX5_show_91 : decode cX5_show 91 = .ok (.getfield 10, 3) := by decide +kernel
theorem dX5_show_94 : decode cX5_show 94 = .ok (.iload_n 1, 1) := by decide +kernel
theorem dX5_show_95 : decode cX5_show 95 = .ok (.invokevirtual 262, 3) := by decide +kernel
theorem dX5_show_98 : decode cX5_show 98 = .ok (.ireturn, 1) := by decide +kernel
theorem dX5_show_99 : decode cX5_show 99 = .ok (.aload_n 0, 1) := by decide +kernel
theorem dX5_show_100 : decode cX5_show 100 = .ok (.getfield 10, 3) := by decide +kernel
theorem dX5_show_103 : decode cX5_show 103 = .ok (.getfield 210, 3) := by decide +kernel
theorem dX5_show_106 : decode cX5_show 106 = .ok (.iload_n 1, 1) := by decide +kernel
theorem dX5_show_107 : decode cX5_show 107 = .ok (.iload_n 2, 1) := by decide +kernel
theorem dX5_show_108 : decode cX5_show 108 = .ok (.invokevirtual 126, 3) := by decide +kernel
theorem dX5_show_111 : decode cX5_show 111 = .ok (.ireturn, 1) := by decide +kernel
theorem dX5_why_0 : decode cX5_why 0 = .ok (.aload_n 0, 1) := by decide +kernel
theorem dX5_why_1 : decode cX5_why 1 = .ok (.getfield 10, 3) := by decide +kernel
theorem dX5_why_4 : decode cX5_why 4 = .ok (.getfield 75, 3) := by decide +kernel
theorem dX5_why_7 : decode cX5_why 7 = .ok (.iload_n 1, 1) := by decide +kernel
theorem dX5_why_8 : decode cX5_why 8 = .ok (.invokevirtual 116, 3) := by decide +kernel
theorem dX5_why_11 : decode cX5_why 11 = .ok (.ifCond .eq 17, 3) := by decide +kernel
theorem dX5_why_14 : decode cX5_why 14 = .ok (.aload_n 0, 1) := by decide +kernel
theorem dX5_why_15 : decode cX5_why 15 = .ok (.getfield 10, 3) := by decide +kernel
theorem dX5_why_18 : decode cX5_why 18 = .ok (.getfield 111, 3) := by decide +kernel
theorem dX5_why_21 : decode cX5_why 21 = .ok (.iload_n 2, 1) := by decide +kernel
theorem dX5_why_22 : decode cX5_why 22 = .ok (.invokevirtual 116, 3) := by decide +kernel
theorem dX5_why_25 : decode cX5_why 25 = .ok (.ifCond .ne 13, 3) := by decide +kernel
theorem dX5_why_28 : decode cX5_why 28 = .ok (.new 119, 3) := by decide +kernel
theorem dX5_why_31 : decode cX5_why 31 = .ok (.dup, 1) := by decide +kernel
theorem dX5_why_32 : decode cX5_why 32 = .ok (.ldc 198, 2) := by decide +kernel
theorem dX5_why_34 : decode cX5_why 34 = .ok (.invokespecial 123, 3) := by decide +kernel
theorem dX5_why_37 : decode cX5_why 37 = .ok (.athrow, 1) := by decide +kernel
theorem dX5_why_38 : decode cX5_why 38 = .ok (.iload_n 3, 1) := by decide +kernel
theorem dX5_why_39 : decode cX5_why 39 = .ok (.invokestatic 108, 3) := by decide +kernel
theorem dX5_why_42 : decode cX5_why 42 = .ok (.ifCond .eq 11, 3) := by decide +kernel
theorem dX5_why_45 : decode cX5_why 45 = .ok (.iload 4, 2) := by decide +kernel
theorem dX5_why_47 : decode cX5_why 47 = .ok (.invokestatic 215, 3) := by decide +kernel
theorem dX5_why_50 : decode cX5_why 50 = .ok (.ifCond .ne 13, 3) := by decide +kernel
theorem dX5_why_53 : decode cX5_why 53 = .ok (.new 68, 3) := by decide +kernel
theorem dX5_why_56 : decode cX5_why 56 = .ok (.dup, 1) := by decide +kernel
theorem dX5_why_57 : decode cX5_why 57 = .ok (.ldc 200, 2) := by decide +kernel
theorem dX5_why_59 : decode cX5_why 59 = .ok (.invokespecial 72, 3) := by decide +kernel
theorem dX5_why_62 : decode cX5_why 62 = .ok (.athrow, 1) := by decide +kernel
theorem dX5_why_63 : decode cX5_why 63 = .ok (.aload_n 0, 1) := by decide +kernel
theorem dX5_why_64 : decode cX5_why 64 = .ok (.getfield 29, 3) := by decide +kernel
theorem dX5_why_67 : decode cX5_why 67 = .ok (.aload_n 0, 1) := by decide +kernel
theorem dX5_why_68 : decode cX5_why 68 = .ok (.getfield 10, 3) := by decide +kernel
theorem dX5_why_71 : decode cX5_why 71 = .ok (.iconst (-1), 1) := by decide +kernel
theorem dX5_why_72 : decode cX5_why 72 = .ok (.iload_n 2, 1) := by decide +kernel
theorem dX5_why_73 : decode cX5_why 73 = .ok (.iload_n 3, 1) := by decide +kernel
theorem dX5_why_74 : decode cX5_why 74 = .ok (.invokevirtual 265, 3) := by decide +kernel
theorem dX5_why_77 : decode cX5_why 77 = .ok (.aload_n 0, 1) := by decide +kernel
theorem dX5_why_78 : decode cX5_why 78 = .ok (.getfield 29, 3) := by decide +kernel
theorem dX5_why_81 : decode cX5_why 81 = .ok (.aload_n 0, 1) := by decide +kernel
theorem dX5_why_82 : decode cX5_why 82 = .ok (.getfield 10, 3) := by decide +kernel
theorem dX5_why_85 : decode cX5_why 85 = .ok (.iload_n 1, 1) := by decide +kernel
theorem dX5_why_86 : decode cX5_why 86 = .ok (.iload 4, 2) := by decide +kernel
theorem dX5_why_88 : decode cX5_why 88 = .ok (.iload 4, 2) := by decide +kernel
theorem dX5_why_90 : decode cX5_why 90 = .ok (.aload_n 0, 1) := by decide +kernel
theorem dX5_why_91 : decode cX5_why 91 = .ok (.getfield 10, 3) := by decide +kernel
theorem dX5_why_94 : decode cX5_why 94 = .ok (.iload_n 2, 1) := by decide +kernel
theorem dX5_why_95 : decode cX5_why 95 = .ok (.iload_n 3, 1) := by decide +kernel
theorem dX5_why_96 : decode cX5_why 96 = .ok (.invokevirtual 269, 3) := by decide +kernel
theorem dX5_why_99 : decode cX5_why 99 = .ok (.iadd, 1) := by decide +kernel
theorem dX5_why_100 : decode cX5_why 100 = .ok (.invokevirtual 272, 3) := by decide +kernel
theorem dX5_why_103 : decode cX5_why 103 = .ok (.istore 6, 2) := by decide +kernel
theorem dX5_why_105 : decode cX5_why 105 = .ok (.iload 5, 2) := by decide +kernel
theorem dX5_why_107 : decode cX5_why 107 = .ok (.ifCond .eq 13, 3) := by decide +kernel
theorem dX5_why_110 : decode cX5_why 110 = .ok (.aload_n 0, 1) := by decide +kernel
theorem dX5_why_111 : decode cX5_why 111 = .ok (.getfield 29, 3) := by decide +kernel
theorem dX5_why_114 : decode cX5_why 114 = .ok (.getfield 276, 3) := by decide +kernel
theorem dX5_why_117 : decode cX5_why 117 = .ok (.goto 5, 3) := by decide +kernel
theorem dX5_why_120 : decode cX5_why 120 = .ok (.iload 6, 2) := by decide +kernel
theorem dX5_why_122 : decode cX5_why 122 = .ok (.ireturn, 1) := by decide +kernel
theorem dX5_firstStart_0 : decode cX5_firstStart 0 = .ok (.aload_n 0, 1) := by decide +kernel
theorem dX5_firstStart_1 : decode cX5_firstStart 1 = .ok (.getfield 10, 3) := by decide +kernel
theorem dX5_firstStart_4 : decode cX5_firstStart 4 = .ok (.getfield 75, 3) := by decide +kernel
theorem dX5_firstStart_7 : decode cX5_firstStart 7 = .ok (.iload_n 1, 1) := by decide +kernel
theorem dX5_firstStart_8 : decode cX5_firstStart 8 = .ok (.invokevirtual 116, 3) := by decide +kernel
theorem dX5_firstStart_11 : decode cX5_firstStart 11 = .ok (.ifCond .eq 17, 3) := by decide +kernel
theorem dX5_firstStart_14 : decode cX5_firstStart 14 = .ok (.aload_n 0, 1) := by decide +kernel
theorem dX5_firstStart_15 : decode cX5_firstStart 15 = .ok (.getfield 10, 3) := by decide +kernel
theorem dX5_firstStart_18 : decode cX5_firstStart 18 = .ok (.getfield 111, 3) := by decide +kernel
theorem dX5_firstStart_21 : decode cX5_firstStart 21 = .ok (.iload_n 2, 1) := by decide +kernel
theorem dX5_firstStart_22 : decode cX5_firstStart 22 = .ok (.invokevirtual 116, 3) := by decide +kernel
theorem dX5_firstStart_25 : decode cX5_firstStart 25 = .ok (.ifCond .ne 13, 3) := by decide +kernel
theorem dX5_firstStart_28 : decode cX5_firstStart 28 = .ok (.new 119, 3) := by decide +kernel
theorem dX5_firstStart_31 : decode cX5_firstStart 31 = .ok (.dup, 1) := by decide +kernel
theorem dX5_firstStart_32 : decode cX5_firstStart 32 = .ok (.ldc 198, 2) := by decide +kernel
theorem dX5_firstStart_34 : decode cX5_firstStart 34 = .ok (.invokespecial 123, 3) := by decide +kernel
theorem dX5_firstStart_37 : decode cX5_firstStart 37 = .ok (.athrow, 1) := by decide +kernel
theorem dX5_firstStart_38 : decode cX5_firstStart 38 = .ok (.iload_n 3, 1) := by decide +kernel
theorem dX5_firstStart_39 : decode cX5_firstStart 39 = .ok (.invokestatic 108, 3) := by decide +kernel
theorem dX5_firstStart_42 : decode cX5_firstStart 42 = .ok (.ifCond .eq 11, 3) := by decide +kernel
theorem dX5_firstStart_45 : decode cX5_firstStart 45 = .ok (.iload 4, 2) := by decide +kernel
theorem dX5_firstStart_47 : decode cX5_firstStart 47 = .ok (.invokestatic 215, 3) := by decide +kernel
theorem dX5_firstStart_50 : decode cX5_firstStart 50 = .ok (.ifCond .ne 13, 3) := by decide +kernel
theorem dX5_firstStart_53 : decode cX5_firstStart 53 = .ok (.new 68, 3) := by decide +kernel
theorem dX5_firstStart_56 : decode cX5_firstStart 56 = .ok (.dup, 1) := by decide +kernel
theorem dX5_firstStart_57 : decode cX5_firstStart 57 = .ok (.ldc 200, 2) := by decide +kernel
theorem dX5_firstStart_59 : decode cX5_firstStart 59 = .ok (.invokespecial 72, 3) := by decide +kernel
theorem dX5_firstStart_62 : decode cX5_firstStart 62 = .ok (.athrow, 1) := by decide +kernel
theorem dX5_firstStart_63 : decode cX5_firstStart 63 = .ok (.aload_n 0, 1) := by decide +kernel
theorem dX5_firstStart_64 : decode cX5_firstStart 64 = .ok (.getfield 29, 3) := by decide +kernel
theorem dX5_firstStart_67 : decode cX5_firstStart 67 = .ok (.aload_n 0, 1) := by decide +kernel
theorem dX5_firstStart_68 : decode cX5_firstStart 68 = .ok (.getfield 10, 3) := by decide +kernel
theorem dX5_firstStart_71 : decode cX5_firstStart 71 = .ok (.iconst (-1), 1) := by decide +kernel
theorem dX5_firstStart_72 : decode cX5_firstStart 72 = .ok (.iload_n 2, 1) := by decide +kernel
theorem dX5_firstStart_73 : decode cX5_firstStart 73 = .ok (.iload_n 3, 1) := by decide +kernel
theorem dX5_firstStart_74 : decode cX5_firstStart 74 = .ok (.invokevirtual 265, 3) := by decide +kernel
theorem dX5_firstStart_77 : decode cX5_firstStart 77 = .ok (.aload_n 0, 1) := by decide +kernel
theorem dX5_firstStart_78 : decode cX5_firstStart 78 = .ok (.getfield 10, 3) := by decide +kernel
theorem dX5_firstStart_81 : decode cX5_firstStart 81 = .ok (.iload_n 2, 1) := by decide +kernel
theorem dX5_firstStart_82 : decode cX5_firstStart 82 = .ok (.iload_n 3, 1) := by decide +kernel
theorem dX5_firstStart_83 : decode cX5_firstStart 83 = .ok (.invokevirtual 269, 3) := by decide +kernel
theorem dX5_firstStart_86 : decode cX5_firstStart 86 = .ok (.istore 5, 2) := by decide +kernel
theorem dX5_firstStart_88 : decode cX5_firstStart 88 = .ok (.iload 4, 2) := by decide +kernel
theorem dX5_firstStart_90 : decode cX5_firstStart 90 = .ok (.istore 6, 2) := by decide +kernel
theorem dX5_firstStart_92 : decode cX5_firstStart 92 = .ok (.iload 6, 2) := by decide +kernel
theorem dX5_firstStart_94 : decode cX5_firstStart 94 = .ok (.sipush 960, 3) := by decide +kernel
theorem dX5_firstStart_97 : decode cX5_firstStart 97 = .ok (.if_icmp .ge 34, 3) := by decide +kernel
theorem dX5_firstStart_100 : decode cX5_firstStart 100 = .ok (.aload_n 0, 1) := by decide +kernel
theorem dX5_firstStart_101 : decode cX5_firstStart 101 = .ok (.getfield 29, 3) := by decide +kernel
theorem dX5_firstStart_104 : decode cX5_firstStart 104 = .ok (.aload_n 0, 1) := by decide +kernel
theorem dX5_firstStart_105 : decode cX5_firstStart 105 = .ok (.getfield 10, 3) := by decide +kernel
theorem dX5_firstStart_108 : decode cX5_firstStart 108 = .ok (.iload_n 1, 1) := by decide +kernel
theorem dX5_firstStart_109 : decode cX5_firstStart 109 = .ok (.iload 6, 2) := by decide +kernel
theorem dX5_firstStart_111 : decode cX5_firstStart 111 = .ok (.iload 6, 2) := by decide +kernel
theorem dX5_firstStart_113 : decode cX5_firstStart 113 = .ok (.iload 5, 2) := by decide +kernel
theorem dX5_firstStart_115 : decode cX5_firstStart 115 = .ok (.iadd, 1) := by decide +kernel
theorem dX5_firstStart_116 : decode cX5_firstStart 116 = .ok (.invokevirtual 272, 3) := by decide +kernel
theorem dX5_firstStart_119 : decode cX5_firstStart 119 = .ok (.ifCond .ne 6, 3) := by decide +kernel
theorem dX5_firstStart_122 : decode cX5_firstStart 122 = .ok (.iload 6, 2) := by decide +kernel
theorem dX5_firstStart_124 : decode cX5_firstStart 124 = .ok (.ireturn, 1) := by decide +kernel
theorem dX5_firstStart_125 : decode cX5_firstStart 125 = .ok (.iinc 6 1, 3) := by decide +kernel
theorem dX5_firstStart_128 : decode cX5_firstStart 128 = .ok (.goto (-36), 3) := by decide +kernel
theorem dX5_firstStart_131 : decode cX5_firstStart 131 = .ok (.new 171, 3) := by decide +kernel
theorem dX5_firstStart_134 : decode cX5_firstStart 134 = .ok (.dup, 1) := by decide +kernel
theorem dX5_firstStart_135 : decode cX5_firstStart 135 = .ok (.ldc_w 279, 3) := by decide +kernel
theorem dX5_firstStart_138 : decode cX5_firstStart 138 = .ok (.invokespecial 175, 3) := by decide +kernel
theorem dX5_firstStart_141 : decode cX5_firstStart 141 = .ok (.athrow, 1) := by decide +kernel
theorem dX5_fail_0 : decode cX5_fail 0 = .ok (.aload_n 0, 1) := by decide +kernel
theorem dX5_fail_1 : decode cX5_fail 1 = .ok (.iload_n 1, 1) := by decide +kernel
theorem dX5_fail_2 : decode cX5_fail 2 = .ok (.iload_n 2, 1) := by decide +kernel
theorem dX5_fail_3 : decode cX5_fail 3 = .ok (.invokevirtual 281, 3) := by decide +kernel
theorem dX5_fail_6 : decode cX5_fail 6 = .ok (.istore_n 3, 1) := by decide +kernel
theorem dX5_fail_7 : decode cX5_fail 7 = .ok (.iload_n 3, 1) := by decide +kernel
theorem dX5_fail_8 : decode cX5_fail 8 = .ok (.iconst 1, 1) := by decide +kernel
theorem dX5_fail_9 : decode cX5_fail 9 = .ok (.if_icmp .ne 13, 3) := by decide +kernel
theorem dX5_fail_12 : decode cX5_fail 12 = .ok (.new 119, 3) := by decide +kernel
theorem dX5_fail_15 : decode cX5_fail 15 = .ok (.dup, 1) := by decide +kernel
theorem dX5_fail_16 : decode cX5_fail 16 = .ok (.ldc 159, 2) := by decide +kernel
theorem dX5_fail_18 : decode cX5_fail 18 = .ok (.invokespecial 123, 3) := by decide +kernel
theorem dX5_fail_21 : decode cX5_fail 21 = .ok (.athrow, 1) := by decide +kernel
theorem dX5_fail_22 : decode cX5_fail 22 = .ok (.iload_n 3, 1) := by decide +kernel
theorem dX5_fail_23 : decode cX5_fail 23 = .ok (.iconst 2, 1) := by decide +kernel
theorem dX5_fail_24 : decode cX5_fail 24 = .ok (.if_icmp .ne 14, 3) := by decide +kernel
theorem dX5_fail_27 : decode cX5_fail 27 = .ok (.new 68, 3) := by decide +kernel
theorem dX5_fail_30 : decode cX5_fail 30 = .ok (.dup, 1) := by decide +kernel
theorem dX5_fail_31 : decode cX5_fail 31 = .ok (.ldc_w 284, 3) := by decide +kernel
theorem dX5_fail_34 : decode cX5_fail 34 = .ok (.invokespecial 72, 3) := by decide +kernel
theorem dX5_fail_37 : decode cX5_fail 37 = .ok (.athrow, 1) := by decide +kernel
theorem dX5_fail_38 : decode cX5_fail 38 = .ok (.iload_n 3, 1) := by decide +kernel
theorem dX5_fail_39 : decode cX5_fail 39 = .ok (.iconst 3, 1) := by decide +kernel
theorem dX5_fail_40 : decode cX5_fail 40 = .ok (.if_icmp .ne 14, 3) := by decide +kernel
theorem dX5_fail_43 : decode cX5_fail 43 = .ok (.new 85, 3) := by decide +kernel
theorem dX5_fail_46 : decode cX5_fail 46 = .ok (.dup, 1) := by decide +kernel
theorem dX5_fail_47 : decode cX5_fail 47 = .ok (.ldc_w 286, 3) := by decide +kernel
theorem dX5_fail_50 : decode cX5_fail 50 = .ok (.invokespecial 89, 3) := by decide +kernel
theorem dX5_fail_53 : decode cX5_fail 53 = .ok (.athrow, 1) := by decide +kernel
theorem dX5_fail_54 : decode cX5_fail 54 = .ok (.aload_n 0, 1) := by decide +kernel
theorem dX5_fail_55 : decode cX5_fail 55 = .ok (.getfield 22, 3) := by decide +kernel
theorem dX5_fail_58 : decode cX5_fail 58 = .ok (.aload_n 0, 1) := by decide +kernel
theorem dX5_fail_59 : decode cX5_fail 59 = .ok (.getfield 10, 3) := by decide +kernel
theorem dX5_fail_62 : decode cX5_fail 62 = .ok (.invokevirtual 90, 3) := by decide +kernel
theorem dX5_fail_65 : decode cX5_fail 65 = .ok (.aload_n 0, 1) := by decide +kernel
theorem dX5_fail_66 : decode cX5_fail 66 = .ok (.iload_n 1, 1) := by decide +kernel
theorem dX5_fail_67 : decode cX5_fail 67 = .ok (.iload_n 2, 1) := by decide +kernel
theorem dX5_fail_68 : decode cX5_fail 68 = .ok (.invokevirtual 288, 3) := by decide +kernel
theorem dX5_fail_71 : decode cX5_fail 71 = .ok (.ireturn, 1) := by decide +kernel
theorem dX5_reopen_0 : decode cX5_reopen 0 = .ok (.aload_n 0, 1) := by decide +kernel
theorem dX5_reopen_1 : decode cX5_reopen 1 = .ok (.getfield 10, 3) := by decide +kernel
theorem dX5_reopen_4 : decode cX5_reopen 4 = .ok (.getfield 75, 3) := by decide +kernel
theorem dX5_reopen_7 : decode cX5_reopen 7 = .ok (.iload_n 1, 1) := by decide +kernel
theorem dX5_reopen_8 : decode cX5_reopen 8 = .ok (.invokevirtual 116, 3) := by decide +kernel
theorem dX5_reopen_11 : decode cX5_reopen 11 = .ok (.ifCond .ne 13, 3) := by decide +kernel
theorem dX5_reopen_14 : decode cX5_reopen 14 = .ok (.new 119, 3) := by decide +kernel
theorem dX5_reopen_17 : decode cX5_reopen 17 = .ok (.dup, 1) := by decide +kernel
theorem dX5_reopen_18 : decode cX5_reopen 18 = .ok (.ldc 159, 2) := by decide +kernel
theorem dX5_reopen_20 : decode cX5_reopen 20 = .ok (.invokespecial 123, 3) := by decide +kernel
theorem dX5_reopen_23 : decode cX5_reopen 23 = .ok (.athrow, 1) := by decide +kernel
theorem dX5_reopen_24 : decode cX5_reopen 24 = .ok (.aload_n 0, 1) := by decide +kernel
theorem dX5_reopen_25 : decode cX5_reopen 25 = .ok (.getfield 10, 3) := by decide +kernel
theorem dX5_reopen_28 : decode cX5_reopen 28 = .ok (.getfield 75, 3) := by decide +kernel
theorem dX5_reopen_31 : decode cX5_reopen 31 = .ok (.iload_n 1, 1) := by decide +kernel
theorem dX5_reopen_32 : decode cX5_reopen 32 = .ok (.iconst 3, 1) := by decide +kernel
theorem dX5_reopen_33 : decode cX5_reopen 33 = .ok (.invokevirtual 126, 3) := by decide +kernel
theorem dX5_reopen_36 : decode cX5_reopen 36 = .ok (.istore_n 2, 1) := by decide +kernel
theorem dX5_reopen_37 : decode cX5_reopen 37 = .ok (.iload_n 2, 1) := by decide +kernel
theorem dX5_reopen_38 : decode cX5_reopen 38 = .ok (.iconst (-1), 1) := by decide +kernel
theorem dX5_reopen_39 : decode cX5_reopen 39 = .ok (.if_icmp .ne 14, 3) := by decide +kernel
theorem dX5_reopen_42 : decode cX5_reopen 42 = .ok (.new 85, 3) := by decide +kernel
theorem dX5_reopen_45 : decode cX5_reopen 45 = .ok (.dup, 1) := by decide +kernel
theorem dX5_reopen_46 : decode cX5_reopen 46 = .ok (.ldc_w 291, 3) := by decide +kernel
theorem dX5_reopen_49 : decode cX5_reopen 49 = .ok (.invokespecial 89, 3) := by decide +kernel
theorem dX5_reopen_52 : decode cX5_reopen 52 = .ok (.athrow, 1) := by decide +kernel
theorem dX5_reopen_53 : decode cX5_reopen 53 = .ok (.aload_n 0, 1) := by decide +kernel
theorem dX5_reopen_54 : decode cX5_reopen 54 = .ok (.getfield 22, 3) := by decide +kernel
theorem dX5_reopen_57 : decode cX5_reopen 57 = .ok (.aload_n 0, 1) := by decide +kernel
theorem dX5_reopen_58 : decode cX5_reopen 58 = .ok (.getfield 10, 3) := by decide +kernel
theorem dX5_reopen_61 : decode cX5_reopen 61 = .ok (.invokevirtual 90, 3) := by decide +kernel
theorem dX5_reopen_64 : decode cX5_reopen 64 = .ok (.aload_n 0, 1) := by decide +kernel
theorem dX5_reopen_65 : decode cX5_reopen 65 = .ok (.getfield 10, 3) := by decide +kernel
theorem dX5_reopen_68 : decode cX5_reopen 68 = .ok (.getfield 75, 3) := by decide +kernel
theorem dX5_reopen_71 : decode cX5_reopen 71 = .ok (.iload_n 1, 1) := by decide +kernel
theorem dX5_reopen_72 : decode cX5_reopen 72 = .ok (.iconst 3, 1) := by decide +kernel
theorem dX5_reopen_73 : decode cX5_reopen 73 = .ok (.iconst (-1), 1) := by decide +kernel
theorem dX5_reopen_74 : decode cX5_reopen 74 = .ok (.invokevirtual 97, 3) := by decide +kernel
theorem dX5_reopen_77 : decode cX5_reopen 77 = .ok (.iload_n 2, 1) := by decide +kernel
theorem dX5_reopen_78 : decode cX5_reopen 78 = .ok (.ireturn, 1) := by decide +kernel
theorem dX5_line_0 : decode cX5_line 0 = .ok (.aload_n 0, 1) := by decide +kernel
theorem dX5_line_1 : decode cX5_line 1 = .ok (.getfield 10, 3) := by decide +kernel
theorem dX5_line_4 : decode cX5_line 4 = .ok (.getfield 293, 3) := by decide +kernel
theorem dX5_line_7 : decode cX5_line 7 = .ok (.iload_n 1, 1) := by decide +kernel
theorem dX5_line_8 : decode cX5_line 8 = .ok (.invokevirtual 116, 3) := by decide +kernel
theorem dX5_line_11 : decode cX5_line 11 = .ok (.ifCond .ne 14, 3) := by decide +kernel
theorem dX5_line_14 : decode cX5_line 14 = .ok (.new 171, 3) := by decide +kernel
theorem dX5_line_17 : decode cX5_line 17 = .ok (.dup, 1) := by decide +kernel
theorem dX5_line_18 : decode cX5_line 18 = .ok (.ldc_w 296, 3) := by decide +kernel
theorem dX5_line_21 : decode cX5_line 21 = .ok (.invokespecial 175, 3) := by decide +kernel
theorem dX5_line_24 : decode cX5_line 24 = .ok (.athrow, 1) := by decide +kernel
theorem dX5_line_25 : decode cX5_line 25 = .ok (.iload_n 2, 1) := by decide +kernel
theorem dX5_line_26 : decode cX5_line 26 = .ok (.iconst 0, 1) := by decide +kernel
theorem dX5_line_27 : decode cX5_line 27 = .ok (.iconst 4, 1) := by decide +kernel
theorem dX5_line_28 : decode cX5_line 28 = .ok (.invokestatic 64, 3) := by decide +kernel
theorem dX5_line_31 : decode cX5_line 31 = .ok (.ifCond .ne 14, 3) := by decide +kernel
theorem dX5_line_34 : decode cX5_line 34 = .ok (.new 68, 3) := by decide +kernel
theorem dX5_line_37 : decode cX5_line 37 = .ok (.dup, 1) := by decide +kernel
theorem dX5_line_38 : decode cX5_line 38 = .ok (.ldc_w 298, 3) := by decide +kernel
theorem dX5_line_41 : decode cX5_line 41 = .ok (.invokespecial 72, 3) := by decide +kernel
theorem dX5_line_44 : decode cX5_line 44 = .ok (.athrow, 1) := by decide +kernel
theorem dX5_line_45 : decode cX5_line 45 = .ok (.aload_n 0, 1) := by decide +kernel
theorem dX5_line_46 : decode cX5_line 46 = .ok (.getfield 10, 3) := by decide +kernel
theorem dX5_line_49 : decode cX5_line 49 = .ok (.getfield 293, 3) := by decide +kernel
theorem dX5_line_52 : decode cX5_line 52 = .ok (.iload_n 1, 1) := by decide +kernel
theorem dX5_line_53 : decode cX5_line 53 = .ok (.iload_n 2, 1) := by decide +kernel
theorem dX5_line_54 : decode cX5_line 54 = .ok (.invokevirtual 126, 3) := by decide +kernel
theorem dX5_line_57 : decode cX5_line 57 = .ok (.ireturn, 1) := by decide +kernel
theorem dX5_used_0 : decode cX5_used 0 = .ok (.aload_n 0, 1) := by decide +kernel
theorem dX5_used_1 : decode cX5_used 1 = .ok (.getfield 10, 3) := by decide +kernel
theorem dX5_used_4 : decode cX5_used 4 = .ok (.getfield 75, 3) := by decide +kernel
theorem dX5_used_7 : decode cX5_used 7 = .ok (.iload_n 1, 1) := by decide +kernel
theorem dX5_used_8 : decode cX5_used 8 = .ok (.invokevirtual 116, 3) := by decide +kernel
theorem dX5_used_11 : decode cX5_used 11 = .ok (.ifCond .ne 13, 3) := by decide +kernel
theorem dX5_used_14 : decode cX5_used 14 = .ok (.new 119, 3) := by decide +kernel
theorem dX5_used_17 : decode cX5_used 17 = .ok (.dup, 1) := by decide +kernel
theorem dX5_used_18 : decode cX5_used 18 = .ok (.ldc 159, 2) := by decide +kernel
theorem dX5_used_20 : decode cX5_used 20 = .ok (.invokespecial 123, 3) := by decide +kernel
theorem dX5_used_23 : decode cX5_used 23 = .ok (.athrow, 1) := by decide +kernel
theorem dX5_used_24 : decode cX5_used 24 = .ok (.iload_n 2, 1) := by decide +kernel
theorem dX5_used_25 : decode cX5_used 25 = .ok (.invokestatic 108, 3) := by decide +kernel
theorem dX5_used_28 : decode cX5_used 28 = .ok (.ifCond .eq 12, 3) := by decide +kernel
theorem dX5_used_31 : decode cX5_used 31 = .ok (.iload_n 3, 1) := by decide +kernel
theorem dX5_used_32 : decode cX5_used 32 = .ok (.iconst 0, 1) := by decide +kernel
theorem dX5_used_33 : decode cX5_used 33 = .ok (.iconst 4, 1) := by decide +kernel
theorem dX5_used_34 : decode cX5_used 34 = .ok (.invokestatic 64, 3) := by decide +kernel
theorem dX5_used_37 : decode cX5_used 37 = .ok (.ifCond .ne 14, 3) := by decide +kernel
theorem dX5_used_40 : decode cX5_used 40 = .ok (.new 68, 3) := by decide +kernel
theorem dX5_used_43 : decode cX5_used 43 = .ok (.dup, 1) := by decide +kernel
theorem dX5_used_44 : decode cX5_used 44 = .ok (.ldc_w 300, 3) := by decide +kernel
theorem dX5_used_47 : decode cX5_used 47 = .ok (.invokespecial 72, 3) := by decide +kernel
theorem dX5_used_50 : decode cX5_used 50 = .ok (.athrow, 1) := by decide +kernel
theorem dX5_used_51 : decode cX5_used 51 = .ok (.aload_n 0, 1) := by decide +kernel
theorem dX5_used_52 : decode cX5_used 52 = .ok (.getfield 10, 3) := by decide +kernel
theorem dX5_used_55 : decode cX5_used 55 = .ok (.iload_n 1, 1) := by decide +kernel
theorem dX5_used_56 : decode cX5_used 56 = .ok (.iload_n 2, 1) := by decide +kernel
theorem dX5_used_57 : decode cX5_used 57 = .ok (.iconst (-1), 1) := by decide +kernel
theorem dX5_used_58 : decode cX5_used 58 = .ok (.invokevirtual 302, 3) := by decide +kernel
theorem dX5_used_61 : decode cX5_used 61 = .ok (.istore 4, 2) := by decide +kernel
theorem dX5_used_63 : decode cX5_used 63 = .ok (.iload_n 3, 1) := by decide +kernel
theorem dX5_used_64 : decode cX5_used 64 = .ok (.tableswitch 100 0 3 #[32, 42, 52, 76], 32) := by decide +kernel
theorem dX5_used_96 : decode cX5_used 96 = .ok (.aload_n 0, 1) := by decide +kernel
theorem dX5_used_97 : decode cX5_used 97 = .ok (.getfield 10, 3) := by decide +kernel
theorem dX5_used_100 : decode cX5_used 100 = .ok (.iload_n 1, 1) := by decide +kernel
theorem dX5_used_101 : decode cX5_used 101 = .ok (.iload_n 2, 1) := by decide +kernel
theorem dX5_used_102 : decode cX5_used 102 = .ok (.invokevirtual 305, 3) := by decide +kernel
theorem dX5_used_105 : decode cX5_used 105 = .ok (.ireturn, 1) := by decide +kernel
theorem dX5_used_106 : decode cX5_used 106 = .ok (.aload_n 0, 1) := by decide +kernel
theorem dX5_used_107 : decode cX5_used 107 = .ok (.getfield 10, 3) := by decide +kernel
theorem dX5_used_110 : decode cX5_used 110 = .ok (.iload_n 1, 1) := by decide +kernel
theorem dX5_used_111 : decode cX5_used 111 = .ok (.iload_n 2, 1) := by decide +kernel
theorem dX5_used_112 : decode cX5_used 112 = .ok (.invokevirtual 308, 3) := by decide +kernel
theorem dX5_used_115 : decode cX5_used 115 = .ok (.ireturn, 1) := by decide +kernel
theorem dX5_used_116 : decode cX5_used 116 = .ok (.sipush 960, 3) := by decide +kernel
theorem dX5_used_119 : decode cX5_used 119 = .ok (.aload_n 0, 1) := by decide +kernel
theorem dX5_used_120 : decode cX5_used 120 = .ok (.getfield 10, 3) := by decide +kernel
theorem dX5_used_123 : decode cX5_used 123 = .ok (.iload_n 1, 1) := by decide +kernel
theorem dX5_used_124 : decode cX5_used 124 = .ok (.iload_n 2, 1) := by decide +kernel
theorem dX5_used_125 : decode cX5_used 125 = .ok (.invokevirtual 305, 3) := by decide +kernel
theorem dX5_used_128 : decode cX5_used 128 = .ok (.isub, 1) := by decide +kernel
theorem dX5_used_129 : decode cX5_used 129 = .ok (.aload_n 0, 1) := by decide +kernel
theorem dX5_used_130 : decode cX5_used 130 = .ok (.getfield 10, 3) := by decide +kernel
theorem dX5_used_133 : decode cX5_used 133 = .ok (.iload_n 1, 1) := by decide +kernel
theorem dX5_used_134 : decode cX5_used 134 = .ok (.iload_n 2, 1) := by decide +kernel
theorem dX5_used_135 : decode cX5_used 135 = .ok (.invokevirtual 308, 3) := by decide +kernel
theorem dX5_used_138 : decode cX5_used 138 = .ok (.isub, 1) := by decide +kernel
theorem dX5_used_139 : decode cX5_used 139 = .ok (.ireturn, 1) := by decide +kernel
theorem dX5_used_140 : decode cX5_used 140 = .ok (.iload 4, 2) := by decide +kernel
theorem dX5_used_142 : decode cX5_used 142 = .ok (.iconst (-1), 1) := by decide +kernel
theorem dX5_used_143 : decode cX5_used 143 = .ok (.if_icmp .ne 7, 3) := by decide +kernel
theorem dX5_used_146 : decode cX5_used 146 = .ok (.iconst (-1), 1) := by decide +kernel
theorem dX5_used_147 : decode cX5_used 147 = .ok (.goto 16, 3) := by decide +kernel
theorem dX5_used_150 : decode cX5_used 150 = .ok (.aload_n 0, 1) := by decide +kernel
theorem dX5_used_151 : decode cX5_used 151 = .ok (.getfield 10, 3) := by decide +kernel
theorem dX5_used_154 : decode cX5_used 154 = .ok (.getfield 210, 3) := by decide +kernel
theorem dX5_used_157 : decode cX5_used 157 = .ok (.iload 4, 2) := by decide +kernel
theorem dX5_used_159 : decode cX5_used 159 = .ok (.iconst 3, 1) := by decide +kernel
theorem dX5_used_160 : decode cX5_used 160 = .ok (.invokevirtual 126, 3) := by decide +kernel
theorem dX5_used_163 : decode cX5_used 163 = .ok (.ireturn, 1) := by decide +kernel
theorem dX5_used_164 : decode cX5_used 164 = .ok (.aload_n 0, 1) := by decide +kernel
theorem dX5_used_165 : decode cX5_used 165 = .ok (.getfield 10, 3) := by decide +kernel
theorem dX5_used_168 : decode cX5_used 168 = .ok (.iload_n 1, 1) := by decide +kernel
theorem dX5_used_169 : decode cX5_used 169 = .ok (.iload_n 2, 1) := by decide +kernel
theorem dX5_used_170 : decode cX5_used 170 = .ok (.invokevirtual 311, 3) := by decide +kernel
theorem dX5_used_173 : decode cX5_used 173 = .ok (.ireturn, 1) := by decide +kernel
theorem dX5_at_0 : decode cX5_at 0 = .ok (.iload_n 1, 1) := by decide +kernel
theorem dX5_at_1 : decode cX5_at 1 = .ok (.invokestatic 108, 3) := by decide +kernel
theorem dX5_at_4 : decode cX5_at 4 = .ok (.ifCond .eq 23, 3) := by decide +kernel
theorem dX5_at_7 : decode cX5_at 7 = .ok (.iload_n 2, 1) := by decide +kernel
theorem dX5_at_8 : decode cX5_at 8 = .ok (.iconst 0, 1) := by decide +kernel
theorem dX5_at_9 : decode cX5_at 9 = .ok (.sipush 1200, 3) := by decide +kernel
theorem dX5_at_12 : decode cX5_at 12 = .ok (.invokestatic 64, 3) := by decide +kernel
theorem dX5_at_15 : decode cX5_at 15 = .ok (.ifCond .eq 12, 3) := by decide +kernel
theorem dX5_at_18 : decode cX5_at 18 = .ok (.iload_n 3, 1) := by decide +kernel
theorem dX5_at_19 : decode cX5_at 19 = .ok (.iconst 0, 1) := by decide +kernel
theorem dX5_at_20 : decode cX5_at 20 = .ok (.iconst 3, 1) := by decide +kernel
theorem dX5_at_21 : decode cX5_at 21 = .ok (.invokestatic 64, 3) := by decide +kernel
theorem dX5_at_24 : decode cX5_at 24 = .ok (.ifCond .ne 13, 3) := by decide +kernel
theorem dX5_at_27 : decode cX5_at 27 = .ok (.new 68, 3) := by decide +kernel
theorem dX5_at_30 : decode cX5_at 30 = .ok (.dup, 1) := by decide +kernel
theorem dX5_at_31 : decode cX5_at 31 = .ok (.ldc 70, 2) := by decide +kernel
theorem dX5_at_33 : decode cX5_at 33 = .ok (.invokespecial 72, 3) := by decide +kernel
theorem dX5_at_36 : decode cX5_at 36 = .ok (.athrow, 1) := by decide +kernel
theorem dX5_at_37 : decode cX5_at 37 = .ok (.iload_n 3, 1) := by decide +kernel
theorem dX5_at_38 : decode cX5_at 38 = .ok (.tableswitch 58 0 2 #[26, 37, 47], 26) := by decide +kernel
theorem dX5_at_64 : decode cX5_at 64 = .ok (.aload_n 0, 1) := by decide +kernel
theorem dX5_at_65 : decode cX5_at 65 = .ok (.getfield 10, 3) := by decide +kernel
theorem dX5_at_68 : decode cX5_at 68 = .ok (.iconst 0, 1) := by decide +kernel
theorem dX5_at_69 : decode cX5_at 69 = .ok (.iload_n 1, 1) := by decide +kernel
theorem dX5_at_70 : decode cX5_at 70 = .ok (.iload_n 2, 1) := by decide +kernel
theorem dX5_at_71 : decode cX5_at 71 = .ok (.invokevirtual 314, 3) := by decide +kernel
theorem dX5_at_74 : decode cX5_at 74 = .ok (.ireturn, 1) := by decide +kernel
theorem dX5_at_75 : decode cX5_at 75 = .ok (.aload_n 0, 1) := by decide +kernel
theorem dX5_at_76 : decode cX5_at 76 = .ok (.getfield 10, 3) := by decide +kernel
theorem dX5_at_79 : decode cX5_at 79 = .ok (.iload_n 1, 1) := by decide +kernel
theorem dX5_at_80 : decode cX5_at 80 = .ok (.iload_n 2, 1) := by decide +kernel
theorem dX5_at_81 : decode cX5_at 81 = .ok (.invokevirtual 317, 3) := by decide +kernel
theorem dX5_at_84 : decode cX5_at 84 = .ok (.ireturn, 1) := by decide +kernel
theorem dX5_at_85 : decode cX5_at 85 = .ok (.aload_n 0, 1) := by decide +kernel
theorem dX5_at_86 : decode cX5_at 86 = .ok (.getfield 10, 3) := by decide +kernel
theorem dX5_at_89 : decode cX5_at 89 = .ok (.iconst 5, 1) := by decide +kernel
theorem dX5_at_90 : decode cX5_at 90 = .ok (.iload_n 1, 1) := by decide +kernel
theorem dX5_at_91 : decode cX5_at 91 = .ok (.iload_n 2, 1) := by decide +kernel
theorem dX5_at_92 : decode cX5_at 92 = .ok (.invokevirtual 314, 3) := by decide +kernel
theorem dX5_at_95 : decode cX5_at 95 = .ok (.ireturn, 1) := by decide +kernel
theorem dX5_at_96 : decode cX5_at 96 = .ok (.aload_n 0, 1) := by decide +kernel
theorem dX5_at_97 : decode cX5_at 97 = .ok (.getfield 10, 3) := by decide +kernel
theorem dX5_at_100 : decode cX5_at 100 = .ok (.iload_n 1, 1) := by decide +kernel
theorem dX5_at_101 : decode cX5_at 101 = .ok (.iload_n 2, 1) := by decide +kernel
theorem dX5_at_102 : decode cX5_at 102 = .ok (.invokevirtual 320, 3) := by decide +kernel
theorem dX5_at_105 : decode cX5_at 105 = .ok (.ireturn, 1) := by decide +kernel
theorem dX5_refusal_0 : decode cX5_refusal 0 = .ok (.aload_n 0, 1) := by decide +kernel
theorem dX5_refusal_1 : decode cX5_refusal 1 = .ok (.getfield 54, 3) := by decide +kernel
theorem dX5_refusal_4 : decode cX5_refusal 4 = .ok (.iconst (-1), 1) := by decide +kernel
theorem dX5_refusal_5 : decode cX5_refusal 5 = .ok (.if_icmp .ne 14, 3) := by decide +kernel
theorem dX5_refusal_8 : decode cX5_refusal 8 = .ok (.new 171, 3) := by decide +kernel
theorem dX5_refusal_11 : decode cX5_refusal 11 = .ok (.dup, 1) := by decide +kernel
theorem dX5_refusal_12 : decode cX5_refusal 12 = .ok (.ldc_w 323, 3) := by decide +kernel
theorem dX5_refusal_15 : decode cX5_refusal 15 = .ok (.invokespecial 175, 3) := by decide +kernel
theorem dX5_refusal_18 : decode cX5_refusal 18 = .ok (.athrow, 1) := by decide +kernel
theorem dX5_refusal_19 : decode cX5_refusal 19 = .ok (.iload_n 1, 1) := by decide +kernel
theorem dX5_refusal_20 : decode cX5_refusal 20 = .ok (.ifCond .eq 10, 3) := by decide +kernel
theorem dX5_refusal_23 : decode cX5_refusal 23 = .ok (.aload_n 0, 1) := by decide +kernel
theorem dX5_refusal_24 : decode cX5_refusal 24 = .ok (.getfield 58, 3) := by decide +kernel
theorem dX5_refusal_27 : decode cX5_refusal 27 = .ok (.goto 7, 3) := by decide +kernel
theorem dX5_refusal_30 : decode cX5_refusal 30 = .ok (.aload_n 0, 1) := by decide +kernel
theorem dX5_refusal_31 : decode cX5_refusal 31 = .ok (.getfield 54, 3) := by decide +kernel
theorem dX5_refusal_34 : decode cX5_refusal 34 = .ok (.ireturn, 1) := by decide +kernel
theorem dX5_advance_0 : decode cX5_advance 0 = .ok (.aload_n 0, 1) := by decide +kernel
theorem dX5_advance_1 : decode cX5_advance 1 = .ok (.iload_n 1, 1) := by decide +kernel
theorem dX5_advance_2 : decode cX5_advance 2 = .ok (.invokevirtual 325, 3) := by decide +kernel
theorem dX5_advance_5 : decode cX5_advance 5 = .ok (.ifCond .eq 14, 3) := by decide +kernel
theorem dX5_advance_8 : decode cX5_advance 8 = .ok (.new 68, 3) := by decide +kernel
theorem dX5_advance_11 : decode cX5_advance 11 = .ok (.dup, 1) := by decide +kernel
theorem dX5_advance_12 : decode cX5_advance 12 = .ok (.ldc_w 328, 3) := by decide +kernel
theorem dX5_advance_15 : decode cX5_advance 15 = .ok (.invokespecial 72, 3) := by decide +kernel
theorem dX5_advance_18 : decode cX5_advance 18 = .ok (.athrow, 1) := by decide +kernel
theorem dX5_advance_19 : decode cX5_advance 19 = .ok (.aload_n 0, 1) := by decide +kernel
theorem dX5_advance_20 : decode cX5_advance 20 = .ok (.getfield 22, 3) := by decide +kernel
theorem dX5_advance_23 : decode cX5_advance 23 = .ok (.aload_n 0, 1) := by decide +kernel
theorem dX5_advance_24 : decode cX5_advance 24 = .ok (.getfield 10, 3) := by decide +kernel
theorem dX5_advance_27 : decode cX5_advance 27 = .ok (.invokevirtual 90, 3) := by decide +kernel
theorem dX5_advance_30 : decode cX5_advance 30 = .ok (.aload_n 0, 1) := by decide +kernel
theorem dX5_advance_31 : decode cX5_advance 31 = .ok (.getfield 10, 3) := by decide +kernel
theorem dX5_advance_34 : decode cX5_advance 34 = .ok (.dup, 1) := by decide +kernel
theorem dX5_advance_35 : decode cX5_advance 35 = .ok (.getfield 330, 3) := by decide +kernel
theorem dX5_advance_38 : decode cX5_advance 38 = .ok (.iload_n 1, 1) := by decide +kernel
theorem dX5_advance_39 : decode cX5_advance 39 = .ok (.iadd, 1) := by decide +kernel
theorem dX5_advance_40 : decode cX5_advance 40 = .ok (.putfield 330, 3) := by decide +kernel
theorem dX5_advance_43 : decode cX5_advance 43 = .ok (.aload_n 0, 1) := by decide +kernel
theorem dX5_advance_44 : decode cX5_advance 44 = .ok (.getfield 10, 3) := by decide +kernel
theorem dX5_advance_47 : decode cX5_advance 47 = .ok (.getfield 330, 3) := by decide +kernel
theorem dX5_advance_50 : decode cX5_advance 50 = .ok (.ireturn, 1) := by decide +kernel
theorem dX5_account_0 : decode cX5_account 0 = .ok (.iload_n 1, 1) := by decide +kernel
theorem dX5_account_1 : decode cX5_account 1 = .ok (.iconst 0, 1) := by decide +kernel
theorem dX5_account_2 : decode cX5_account 2 = .ok (.bipush 11, 2) := by decide +kernel
theorem dX5_account_4 : decode cX5_account 4 = .ok (.invokestatic 64, 3) := by decide +kernel
theorem dX5_account_7 : decode cX5_account 7 = .ok (.ifCond .ne 13, 3) := by decide +kernel
theorem dX5_account_10 : decode cX5_account 10 = .ok (.new 68, 3) := by decide +kernel
theorem dX5_account_13 : decode cX5_account 13 = .ok (.dup, 1) := by decide +kernel
theorem dX5_account_14 : decode cX5_account 14 = .ok (.ldc 167, 2) := by decide +kernel
theorem dX5_account_16 : decode cX5_account 16 = .ok (.invokespecial 72, 3) := by decide +kernel
theorem dX5_account_19 : decode cX5_account 19 = .ok (.athrow, 1) := by decide +kernel
theorem dX5_account_20 : decode cX5_account 20 = .ok (.iload_n 1, 1) := by decide +kernel
theorem dX5_account_21 : decode cX5_account 21 = .ok (.tableswitch 199 0 10 #[59, 70, 81, 92, 103, 125, 136, 147, 158, 180, 188], 59) := by decide +kernel
theorem dX5_account_80 : decode cX5_account 80 = .ok (.aload_n 0, 1) := by decide +kernel
theorem dX5_account_81 : decode cX5_account 81 = .ok (.getfield 10, 3) := by decide +kernel
theorem dX5_account_84 : decode cX5_account 84 = .ok (.getfield 75, 3) := by decide +kernel
theorem dX5_account_87 : decode cX5_account 87 = .ok (.invokevirtual 79, 3) := by decide +kernel
theorem dX5_account_90 : decode cX5_account 90 = .ok (.ireturn, 1) := by decide +kernel
theorem dX5_account_91 : decode cX5_account 91 = .ok (.aload_n 0, 1) := by decide +kernel
theorem dX5_account_92 : decode cX5_account 92 = .ok (.getfield 10, 3) := by decide +kernel
theorem dX5_account_95 : decode cX5_account 95 = .ok (.getfield 111, 3) := by decide +kernel
theorem dX5_account_98 : decode cX5_account 98 = .ok (.invokevirtual 79, 3) := by decide +kernel
theorem dX5_account_101 : decode cX5_account 101 = .ok (.ireturn, 1) := by decide +kernel
theorem dX5_account_102 : decode cX5_account 102 = .ok (.aload_n 0, 1) := by decide +kernel
theorem dX5_account_103 : decode cX5_account 103 = .ok (.getfield 10, 3) := by decide +kernel
theorem dX5_account_106 : decode cX5_account 106 = .ok (.getfield 130, 3) := by decide +kernel
theorem dX5_account_109 : decode cX5_account 109 = .ok (.invokevirtual 79, 3) := by decide +kernel
theorem dX5_account_112 : decode cX5_account 112 = .ok (.ireturn, 1) := by decide +kernel
theorem dX5_account_113 : decode cX5_account 113 = .ok (.aload_n 0, 1) := by decide +kernel
theorem dX5_account_114 : decode cX5_account 114 = .ok (.getfield 10, 3) := by decide +kernel
theorem dX5_account_117 : decode cX5_account 117 = .ok (.getfield 210, 3) := by decide +kernel
theorem dX5_account_120 : decode cX5_account 120 = .ok (.invokevirtual 79, 3) := by decide +kernel
theorem dX5_account_123 : decode cX5_account 123 = .ok (.ireturn, 1) := by decide +kernel
theorem dX5_account_124 : decode cX5_account 124 = .ok (.aload_n 0, 1) := by decide +kernel
theorem dX5_account_125 : decode cX5_account 125 = .ok (.getfield 10, 3) := by decide +kernel
theorem dX5_account_128 : decode cX5_account 128 = .ok (.getfield 210, 3) := by decide +kernel
theorem dX5_account_131 : decode cX5_account 131 = .ok (.invokevirtual 79, 3) := by decide +kernel
theorem dX5_account_134 : decode cX5_account 134 = .ok (.aload_n 0, 1) := by decide +kernel
theorem dX5_account_135 : decode cX5_account 135 = .ok (.getfield 10, 3) := by decide +kernel
theorem dX5_account_138 : decode cX5_account 138 = .ok (.iconst 0, 1) := by decide +kernel
theorem dX5_account_139 : decode cX5_account 139 = .ok (.iconst (-1), 1) := by decide +kernel
theorem dX5_account_140 : decode cX5_account 140 = .ok (.iconst 0, 1) := by decide +kernel
theorem dX5_account_141 : decode cX5_account 141 = .ok (.invokevirtual 163, 3) := by decide +kernel
theorem dX5_account_144 : decode cX5_account 144 = .ok (.isub, 1) := by decide +kernel
theorem dX5_account_145 : decode cX5_account 145 = .ok (.ireturn, 1) := by decide +kernel
theorem dX5_account_146 : decode cX5_account 146 = .ok (.aload_n 0, 1) := by decide +kernel
theorem dX5_account_147 : decode cX5_account 147 = .ok (.getfield 10, 3) := by decide +kernel
theorem dX5_account_150 : decode cX5_account 150 = .ok (.iconst 2, 1) := by decide +kernel
theorem dX5_account_151 : decode cX5_account 151 = .ok (.iconst (-1), 1) := by decide +kernel
theorem dX5_account_152 : decode cX5_account 152 = .ok (.iconst 0, 1) := by decide +kernel
theorem dX5_account_153 : decode cX5_account 153 = .ok (.invokevirtual 163, 3) := by decide +kernel
theorem dX5_account_156 : decode cX5_account 156 = .ok (.ireturn, 1) := by decide +kernel
theorem dX5_account_157 : decode cX5_account 157 = .ok (.aload_n 0, 1) := by decide +kernel
theorem dX5_account_158 : decode cX5_account 158 = .ok (.getfield 10, 3) := by decide +kernel
theorem dX5_account_161 : decode cX5_account 161 = .ok (.iconst 3, 1) := by decide +kernel
theorem dX5_account_162 : decode cX5_account 162 = .ok (.iconst (-1), 1) := by decide +kernel
theorem dX5_account_163 : decode cX5_account 163 = .ok (.iconst 0, 1) := by decide +kernel
theorem dX5_account_164 : decode cX5_account 164 = .ok (.invokevirtual 163, 3) := by decide +kernel
theorem dX5_account_167 : decode cX5_account 167 = .ok (.ireturn, 1) := by decide +kernel
theorem dX5_account_168 : decode cX5_account 168 = .ok (.aload_n 0, 1) := by decide +kernel
theorem dX5_account_169 : decode cX5_account 169 = .ok (.getfield 10, 3) := by decide +kernel
theorem dX5_account_172 : decode cX5_account 172 = .ok (.iconst 4, 1) := by decide +kernel
theorem dX5_account_173 : decode cX5_account 173 = .ok (.iconst (-1), 1) := by decide +kernel
theorem dX5_account_174 : decode cX5_account 174 = .ok (.iconst 0, 1) := by decide +kernel
theorem dX5_account_175 : decode cX5_account 175 = .ok (.invokevirtual 163, 3) := by decide +kernel
theorem dX5_account_178 : decode cX5_account 178 = .ok (.ireturn, 1) := by decide +kernel
theorem dX5_account_179 : decode cX5_account 179 = .ok (.aload_n 0, 1) := by decide +kernel
theorem dX5_account_180 : decode cX5_account 180 = .ok (.getfield 10, 3) := by decide +kernel
theorem dX5_account_183 : decode cX5_account 183 = .ok (.iconst 3, 1) := by decide +kernel
theorem dX5_account_184 : decode cX5_account 184 = .ok (.iconst (-1), 1) := by decide +kernel
theorem dX5_account_185 : decode cX5_account 185 = .ok (.iconst 0, 1) := by decide +kernel
theorem dX5_account_186 : decode cX5_account 186 = .ok (.invokevirtual 163, 3) := by decide +kernel
theorem dX5_account_189 : decode cX5_account 189 = .ok (.aload_n 0, 1) := by decide +kernel
theorem dX5_account_190 : decode cX5_account 190 = .ok (.getfield 10, 3) := by decide +kernel
theorem dX5_account_193 : decode cX5_account 193 = .ok (.iconst 4, 1) := by decide +kernel
theorem dX5_account_194 : decode cX5_account 194 = .ok (.iconst (-1), 1) := by decide +kernel
theorem dX5_account_195 : decode cX5_account 195 = .ok (.iconst 0, 1) := by decide +kernel
theorem dX5_account_196 : decode cX5_account 196 = .ok (.invokevirtual 163, 3) := by decide +kernel
theorem dX5_account_199 : decode cX5_account 199 = .ok (.isub, 1) := by decide +kernel
theorem dX5_account_200 : decode cX5_account 200 = .ok (.ireturn, 1) := by decide +kernel
theorem dX5_account_201 : decode cX5_account 201 = .ok (.aload_n 0, 1) := by decide +kernel
theorem dX5_account_202 : decode cX5_account 202 = .ok (.getfield 10, 3) := by decide +kernel
theorem dX5_account_205 : decode cX5_account 205 = .ok (.getfield 333, 3) := by decide +kernel
theorem dX5_account_208 : decode cX5_account 208 = .ok (.ireturn, 1) := by decide +kernel
theorem dX5_account_209 : decode cX5_account 209 = .ok (.aload_n 0, 1) := by decide +kernel
theorem dX5_account_210 : decode cX5_account 210 = .ok (.getfield 10, 3) := by decide +kernel
theorem dX5_account_213 : decode cX5_account 213 = .ok (.iconst 1, 1) := by decide +kernel
theorem dX5_account_214 : decode cX5_account 214 = .ok (.iconst (-1), 1) := by decide +kernel
theorem dX5_account_215 : decode cX5_account 215 = .ok (.iconst 0, 1) := by decide +kernel
theorem dX5_account_216 : decode cX5_account 216 = .ok (.invokevirtual 163, 3) := by decide +kernel
theorem dX5_account_219 : decode cX5_account 219 = .ok (.ireturn, 1) := by decide +kernel
theorem dX5_account_220 : decode cX5_account 220 = .ok (.aload_n 0, 1) := by decide +kernel
theorem dX5_account_221 : decode cX5_account 221 = .ok (.getfield 10, 3) := by decide +kernel
theorem dX5_account_224 : decode cX5_account 224 = .ok (.getfield 330, 3) := by decide +kernel
theorem dX5_account_227 : decode cX5_account 227 = .ok (.ireturn, 1) := by decide +kernel
theorem dX5_bestFilm_0 : decode cX5_bestFilm 0 = .ok (.aload_n 0, 1) := by decide +kernel
theorem dX5_bestFilm_1 : decode cX5_bestFilm 1 = .ok (.getfield 10, 3) := by decide +kernel
theorem dX5_bestFilm_4 : decode cX5_bestFilm 4 = .ok (.getfield 111, 3) := by decide +kernel
theorem dX5_bestFilm_7 : decode cX5_bestFilm 7 = .ok (.invokevirtual 79, 3) := by decide +kernel
theorem dX5_bestFilm_10 : decode cX5_bestFilm 10 = .ok (.ifCond .ne 14, 3) := by decide +kernel
theorem dX5_bestFilm_13 : decode cX5_bestFilm 13 = .ok (.new 171, 3) := by decide +kernel
theorem dX5_bestFilm_16 : decode cX5_bestFilm 16 = .ok (.dup, 1) := by decide +kernel
theorem dX5_bestFilm_17 : decode cX5_bestFilm 17 = .ok (.ldc_w 336, 3) := by decide +kernel
theorem dX5_bestFilm_20 : decode cX5_bestFilm 20 = .ok (.invokespecial 175, 3) := by decide +kernel
theorem dX5_bestFilm_23 : decode cX5_bestFilm 23 = .ok (.athrow, 1) := by decide +kernel
theorem dX5_bestFilm_24 : decode cX5_bestFilm 24 = .ok (.iconst 0, 1) := by decide +kernel
theorem dX5_bestFilm_25 : decode cX5_bestFilm 25 = .ok (.istore_n 1, 1) := by decide +kernel
theorem dX5_bestFilm_26 : decode cX5_bestFilm 26 = .ok (.aload_n 0, 1) := by decide +kernel
theorem dX5_bestFilm_27 : decode cX5_bestFilm 27 = .ok (.getfield 10, 3) := by decide +kernel
theorem dX5_bestFilm_30 : decode cX5_bestFilm 30 = .ok (.iconst 2, 1) := by decide +kernel
theorem dX5_bestFilm_31 : decode cX5_bestFilm 31 = .ok (.iconst 1, 1) := by decide +kernel
theorem dX5_bestFilm_32 : decode cX5_bestFilm 32 = .ok (.iload_n 1, 1) := by decide +kernel
theorem dX5_bestFilm_33 : decode cX5_bestFilm 33 = .ok (.invokevirtual 163, 3) := by decide +kernel
theorem dX5_bestFilm_36 : decode cX5_bestFilm 36 = .ok (.istore_n 2, 1) := by decide +kernel
theorem dX5_bestFilm_37 : decode cX5_bestFilm 37 = .ok (.iconst 1, 1) := by decide +kernel
theorem dX5_bestFilm_38 : decode cX5_bestFilm 38 = .ok (.istore_n 3, 1) := by decide +kernel
theorem dX5_bestFilm_39 : decode cX5_bestFilm 39 = .ok (.iload_n 3, 1) := by decide +kernel
theorem dX5_bestFilm_40 : decode cX5_bestFilm 40 = .ok (.aload_n 0, 1) := by decide +kernel
theorem dX5_bestFilm_41 : decode cX5_bestFilm 41 = .ok (.getfield 10, 3) := by decide +kernel
theorem dX5_bestFilm_44 : decode cX5_bestFilm 44 = .ok (.getfield 111, 3) := by decide +kernel
theorem dX5_bestFilm_47 : decode cX5_bestFilm 47 = .ok (.invokevirtual 79, 3) := by decide +kernel
theorem dX5_bestFilm_50 : decode cX5_bestFilm 50 = .ok (.if_icmp .ge 32, 3) := by decide +kernel
theorem dX5_bestFilm_53 : decode cX5_bestFilm 53 = .ok (.aload_n 0, 1) := by decide +kernel
theorem dX5_bestFilm_54 : decode cX5_bestFilm 54 = .ok (.getfield 10, 3) := by decide +kernel
theorem dX5_bestFilm_57 : decode cX5_bestFilm 57 = .ok (.iconst 2, 1) := by decide +kernel
theorem dX5_bestFilm_58 : decode cX5_bestFilm 58 = .ok (.iconst 1, 1) := by decide +kernel
theorem dX5_bestFilm_59 : decode cX5_bestFilm 59 = .ok (.iload_n 3, 1) := by decide +kernel
theorem dX5_bestFilm_60 : decode cX5_bestFilm 60 = .ok (.invokevirtual 163, 3) := by decide +kernel
theorem dX5_bestFilm_63 : decode cX5_bestFilm 63 = .ok (.istore 4, 2) := by decide +kernel
theorem dX5_bestFilm_65 : decode cX5_bestFilm 65 = .ok (.iload 4, 2) := by decide +kernel
theorem dX5_bestFilm_67 : decode cX5_bestFilm 67 = .ok (.iload_n 2, 1) := by decide +kernel
theorem dX5_bestFilm_68 : decode cX5_bestFilm 68 = .ok (.if_icmp .le 8, 3) := by decide +kernel
theorem dX5_bestFilm_71 : decode cX5_bestFilm 71 = .ok (.iload_n 3, 1) := by decide +kernel
theorem dX5_bestFilm_72 : decode cX5_bestFilm 72 = .ok (.istore_n 1, 1) := by decide +kernel
theorem dX5_bestFilm_73 : decode cX5_bestFilm 73 = .ok (.iload 4, 2) := by decide +kernel
theorem dX5_bestFilm_75 : decode cX5_bestFilm 75 = .ok (.istore_n 2, 1) := by decide +kernel
theorem dX5_bestFilm_76 : decode cX5_bestFilm 76 = .ok (.iinc 3 1, 3) := by decide +kernel
theorem dX5_bestFilm_79 : decode cX5_bestFilm 79 = .ok (.goto (-40), 3) := by decide +kernel
theorem dX5_bestFilm_82 : decode cX5_bestFilm 82 = .ok (.iload_n 1, 1) := by decide +kernel
theorem dX5_bestFilm_83 : decode cX5_bestFilm 83 = .ok (.ireturn, 1) := by decide +kernel
theorem dX5_use_0 : decode cX5_use 0 = .ok (.aload_n 0, 1) := by decide +kernel
theorem dX5_use_1 : decode cX5_use 1 = .ok (.getfield 10, 3) := by decide +kernel
theorem dX5_use_4 : decode cX5_use 4 = .ok (.iconst 5, 1) := by decide +kernel
theorem dX5_use_5 : decode cX5_use 5 = .ok (.iconst (-1), 1) := by decide +kernel
theorem dX5_use_6 : decode cX5_use 6 = .ok (.iconst 0, 1) := by decide +kernel
theorem dX5_use_7 : decode cX5_use 7 = .ok (.invokevirtual 163, 3) := by decide +kernel
theorem dX5_use_10 : decode cX5_use 10 = .ok (.istore_n 1, 1) := by decide +kernel
theorem dX5_use_11 : decode cX5_use 11 = .ok (.iload_n 1, 1) := by decide +kernel
theorem dX5_use_12 : decode cX5_use 12 = .ok (.ifCond .ne 14, 3) := by decide +kernel
theorem dX5_use_15 : decode cX5_use 15 = .ok (.new 338, 3) := by decide +kernel
theorem dX5_use_18 : decode cX5_use 18 = .ok (.dup, 1) := by decide +kernel
theorem dX5_use_19 : decode cX5_use 19 = .ok (.ldc_w 340, 3) := by decide +kernel
theorem dX5_use_22 : decode cX5_use 22 = .ok (.invokespecial 342, 3) := by decide +kernel
theorem dX5_use_25 : decode cX5_use 25 = .ok (.athrow, 1) := by decide +kernel
theorem dX5_use_26 : decode cX5_use 26 = .ok (.aload_n 0, 1) := by decide +kernel
theorem dX5_use_27 : decode cX5_use 27 = .ok (.getfield 10, 3) := by decide +kernel
theorem dX5_use_30 : decode cX5_use 30 = .ok (.iconst 2, 1) := by decide +kernel
theorem dX5_use_31 : decode cX5_use 31 = .ok (.iconst (-1), 1) := by decide +kernel
theorem dX5_use_32 : decode cX5_use 32 = .ok (.iconst 0, 1) := by decide +kernel
theorem dX5_use_33 : decode cX5_use 33 = .ok (.invokevirtual 163, 3) := by decide +kernel
theorem dX5_use_36 : decode cX5_use 36 = .ok (.i2d, 1) := by decide +kernel
theorem dX5_use_37 : decode cX5_use 37 = .ok (.iload_n 1, 1) := by decide +kernel
theorem dX5_use_38 : decode cX5_use 38 = .ok (.i2d, 1) := by decide +kernel
theorem dX5_use_39 : decode cX5_use 39 = .ok (.ddiv, 1) := by decide +kernel
theorem dX5_use_40 : decode cX5_use 40 = .ok (.dreturn, 1) := by decide +kernel
theorem dX5_write_0 : decode cX5_write 0 = .ok (.aload_n 0, 1) := by decide +kernel
theorem dX5_write_1 : decode cX5_write 1 = .ok (.getfield 10, 3) := by decide +kernel
theorem dX5_write_4 : decode cX5_write 4 = .ok (.getfield 75, 3) := by decide +kernel
theorem dX5_write_7 : decode cX5_write 7 = .ok (.iload_n 1, 1) := by decide +kernel
theorem dX5_write_8 : decode cX5_write 8 = .ok (.invokevirtual 116, 3) := by decide +kernel
theorem dX5_write_11 : decode cX5_write 11 = .ok (.ifCond .ne 13, 3) := by decide +kernel
theorem dX5_write_14 : decode cX5_write 14 = .ok (.new 119, 3) := by decide +kernel
theorem dX5_write_17 : decode cX5_write 17 = .ok (.dup, 1) := by decide +kernel
theorem dX5_write_18 : decode cX5_write 18 = .ok (.ldc 159, 2) := by decide +kernel
theorem dX5_write_20 : decode cX5_write 20 = .ok (.invokespecial 123, 3) := by decide +kernel
theorem dX5_write_23 : decode cX5_write 23 = .ok (.athrow, 1) := by decide +kernel
theorem dX5_write_24 : decode cX5_write 24 = .ok (.iload_n 2, 1) := by decide +kernel
theorem dX5_write_25 : decode cX5_write 25 = .ok (.invokestatic 108, 3) := by decide +kernel
theorem dX5_write_28 : decode cX5_write 28 = .ok (.ifCond .ne 13, 3) := by decide +kernel
theorem dX5_write_31 : decode cX5_write 31 = .ok (.new 68, 3) := by decide +kernel
theorem dX5_write_34 : decode cX5_write 34 = .ok (.dup, 1) := by decide +kernel
theorem dX5_write_35 : decode cX5_write 35 = .ok (.ldc 169, 2) := by decide +kernel
theorem dX5_write_37 : decode cX5_write 37 = .ok (.invokespecial 72, 3) := by decide +kernel
theorem dX5_write_40 : decode cX5_write 40 = .ok (.athrow, 1) := by decide +kernel
theorem dX5_write_41 : decode cX5_write 41 = .ok (.aload_n 0, 1) := by decide +kernel
theorem dX5_write_42 : decode cX5_write 42 = .ok (.getfield 47, 3) := by decide +kernel
theorem dX5_write_45 : decode cX5_write 45 = .ok (.iconst 0, 1) := by decide +kernel
theorem dX5_write_46 : decode cX5_write 46 = .ok (.invokevirtual 343, 3) := by decide +kernel
theorem dX5_write_49 : decode cX5_write 49 = .ok (.aload_n 0, 1) := by decide +kernel
theorem dX5_write_50 : decode cX5_write 50 = .ok (.getfield 10, 3) := by decide +kernel
theorem dX5_write_53 : decode cX5_write 53 = .ok (.iload_n 1, 1) := by decide +kernel
theorem dX5_write_54 : decode cX5_write 54 = .ok (.iload_n 2, 1) := by decide +kernel
theorem dX5_write_55 : decode cX5_write 55 = .ok (.invokevirtual 347, 3) := by decide +kernel
theorem dX5_write_58 : decode cX5_write 58 = .ok (.ifCond .eq 14, 3) := by decide +kernel
theorem dX5_write_61 : decode cX5_write 61 = .ok (.aload_n 0, 1) := by decide +kernel
theorem dX5_write_62 : decode cX5_write 62 = .ok (.getfield 47, 3) := by decide +kernel
theorem dX5_write_65 : decode cX5_write 65 = .ok (.ldc_w 351, 3) := by decide +kernel
theorem dX5_write_68 : decode cX5_write 68 = .ok (.invokevirtual 353, 3) := by decide +kernel
theorem dX5_write_71 : decode cX5_write 71 = .ok (.pop, 1) := by decide +kernel
theorem dX5_write_72 : decode cX5_write 72 = .ok (.aload_n 0, 1) := by decide +kernel
theorem dX5_write_73 : decode cX5_write 73 = .ok (.getfield 10, 3) := by decide +kernel
theorem dX5_write_76 : decode cX5_write 76 = .ok (.iload_n 1, 1) := by decide +kernel
theorem dX5_write_77 : decode cX5_write 77 = .ok (.iload_n 2, 1) := by decide +kernel
theorem dX5_write_78 : decode cX5_write 78 = .ok (.iconst (-1), 1) := by decide +kernel
theorem dX5_write_79 : decode cX5_write 79 = .ok (.invokevirtual 302, 3) := by decide +kernel
theorem dX5_write_82 : decode cX5_write 82 = .ok (.istore_n 3, 1) := by decide +kernel
theorem dX5_write_83 : decode cX5_write 83 = .ok (.iload_n 3, 1) := by decide +kernel
theorem dX5_write_84 : decode cX5_write 84 = .ok (.iconst (-1), 1) := by decide +kernel
theorem dX5_write_85 : decode cX5_write 85 = .ok (.if_icmp .ne 14, 3) := by decide +kernel
theorem dX5_write_88 : decode cX5_write 88 = .ok (.aload_n 0, 1) := by decide +kernel
theorem dX5_write_89 : decode cX5_write 89 = .ok (.getfield 47, 3) := by decide +kernel
theorem dX5_write_92 : decode cX5_write 92 = .ok (.ldc_w 357, 3) := by decide +kernel
theorem dX5_write_95 : decode cX5_write 95 = .ok (.invokevirtual 353, 3) := by decide +kernel
theorem dX5_write_98 : decode cX5_write 98 = .ok (.pop, 1) := by decide +kernel
theorem dX5_write_99 : decode cX5_write 99 = .ok (.iconst 0, 1) := by decide +kernel
theorem dX5_write_100 : decode cX5_write 100 = .ok (.istore 4, 2) := by decide +kernel
theorem dX5_write_102 : decode cX5_write 102 = .ok (.iload 4, 2) := by decide +kernel
theorem dX5_write_104 : decode cX5_write 104 = .ok (.bipush 30, 2) := by decide +kernel
theorem dX5_write_106 : decode cX5_write 106 = .ok (.if_icmp .ge 57, 3) := by decide +kernel
theorem dX5_write_109 : decode cX5_write 109 = .ok (.iload_n 3, 1) := by decide +kernel
theorem dX5_write_110 : decode cX5_write 110 = .ok (.iconst (-1), 1) := by decide +kernel
theorem dX5_write_111 : decode cX5_write 111 = .ok (.if_icmp .eq 52, 3) := by decide +kernel
theorem dX5_write_114 : decode cX5_write 114 = .ok (.iload 4, 2) := by decide +kernel
theorem dX5_write_116 : decode cX5_write 116 = .ok (.ifCond .le 14, 3) := by decide +kernel
theorem dX5_write_119 : decode cX5_write 119 = .ok (.aload_n 0, 1) := by decide +kernel
theorem dX5_write_120 : decode cX5_write 120 = .ok (.getfield 47, 3) := by decide +kernel
theorem dX5_write_123 : decode cX5_write 123 = .ok (.ldc_w 359, 3) := by decide +kernel
theorem dX5_write_126 : decode cX5_write 126 = .ok (.invokevirtual 353, 3) := by decide +kernel
theorem dX5_write_129 : decode cX5_write 129 = .ok (.pop, 1) := by decide +kernel
theorem dX5_write_130 : decode cX5_write 130 = .ok (.aload_n 0, 1) := by decide +kernel
theorem dX5_write_131 : decode cX5_write 131 = .ok (.iload_n 3, 1) := by decide +kernel
theorem dX5_write_132 : decode cX5_write 132 = .ok (.invokevirtual 361, 3) := by decide +kernel
theorem dX5_write_135 : decode cX5_write 135 = .ok (.aload_n 0, 1) := by decide +kernel
theorem dX5_write_136 : decode cX5_write 136 = .ok (.getfield 10, 3) := by decide +kernel
theorem dX5_write_139 : decode cX5_write 139 = .ok (.iload_n 1, 1) := by decide +kernel
theorem dX5_write_140 : decode cX5_write 140 = .ok (.iload_n 2, 1) := by decide +kernel
theorem dX5_write_141 : decode cX5_write 141 = .ok (.aload_n 0, 1) := by decide +kernel
theorem dX5_write_142 : decode cX5_write 142 = .ok (.getfield 10, 3) := by decide +kernel
theorem dX5_write_145 : decode cX5_write 145 = .ok (.getfield 210, 3) := by decide +kernel
theorem dX5_write_148 : decode cX5_write 148 = .ok (.iload_n 3, 1) := by decide +kernel
theorem dX5_write_149 : decode cX5_write 149 = .ok (.iconst 3, 1) := by decide +kernel
theorem dX5_write_150 : decode cX5_write 150 = .ok (.invokevirtual 126, 3) := by decide +kernel
theorem dX5_write_153 : decode cX5_write 153 = .ok (.invokevirtual 302, 3) := by decide +kernel
theorem dX5_write_156 : decode cX5_write 156 = .ok (.istore_n 3, 1) := by decide +kernel
theorem dX5_write_157 : decode cX5_write 157 = .ok (.iinc 4 1, 3) := by decide +kernel
theorem dX5_write_160 : decode cX5_write 160 = .ok (.goto (-58), 3) := by decide +kernel
theorem dX5_write_163 : decode cX5_write 163 = .ok (.aload_n 0, 1) := by decide +kernel
theorem dX5_write_164 : decode cX5_write 164 = .ok (.getfield 47, 3) := by decide +kernel
theorem dX5_write_167 : decode cX5_write 167 = .ok (.invokevirtual 364, 3) := by decide +kernel
theorem dX5_write_170 : decode cX5_write 170 = .ok (.ireturn, 1) := by decide +kernel
theorem dX5_written_0 : decode cX5_written 0 = .ok (.iload_n 1, 1) := by decide +kernel
theorem dX5_written_1 : decode cX5_written 1 = .ok (.ifCond .lt 14, 3) := by decide +kernel
theorem dX5_written_4 : decode cX5_written 4 = .ok (.iload_n 1, 1) := by decide +kernel
theorem dX5_written_5 : decode cX5_written 5 = .ok (.aload_n 0, 1) := by decide +kernel
theorem dX5_written_6 : decode cX5_written 6 = .ok (.getfield 47, 3) := by decide +kernel
theorem dX5_written_9 : decode cX5_written 9 = .ok (.invokevirtual 364, 3) := by decide +kernel
theorem dX5_written_12 : decode cX5_written 12 = .ok (.if_icmp .lt 14, 3) := by decide +kernel
theorem dX5_written_15 : decode cX5_written 15 = .ok (.new 119, 3) := by decide +kernel
theorem dX5_written_18 : decode cX5_written 18 = .ok (.dup, 1) := by decide +kernel
theorem dX5_written_19 : decode cX5_written 19 = .ok (.ldc_w 367, 3) := by decide +kernel
theorem dX5_written_22 : decode cX5_written 22 = .ok (.invokespecial 123, 3) := by decide +kernel
theorem dX5_written_25 : decode cX5_written 25 = .ok (.athrow, 1) := by decide +kernel
theorem dX5_written_26 : decode cX5_written 26 = .ok (.aload_n 0, 1) := by decide +kernel
theorem dX5_written_27 : decode cX5_written 27 = .ok (.getfield 47, 3) := by decide +kernel
theorem dX5_written_30 : decode cX5_written 30 = .ok (.iload_n 1, 1) := by decide +kernel
theorem dX5_written_31 : decode cX5_written 31 = .ok (.invokevirtual 369, 3) := by decide +kernel
theorem dX5_written_34 : decode cX5_written 34 = .ok (.ireturn, 1) := by decide +kernel
theorem dX5_append_0 : decode cX5_append 0 = .ok (.iload_n 1, 1) := by decide +kernel
theorem dX5_append_1 : decode cX5_append 1 = .ok (.bipush 32, 2) := by decide +kernel
theorem dX5_append_3 : decode cX5_append 3 = .ok (.bipush 126, 2) := by decide +kernel
theorem dX5_append_5 : decode cX5_append 5 = .ok (.invokestatic 64, 3) := by decide +kernel
theorem dX5_append_8 : decode cX5_append 8 = .ok (.ifCond .ne 14, 3) := by decide +kernel
theorem dX5_append_11 : decode cX5_append 11 = .ok (.new 68, 3) := by decide +kernel
theorem dX5_append_14 : decode cX5_append 14 = .ok (.dup, 1) := by decide +kernel
theorem dX5_append_15 : decode cX5_append 15 = .ok (.ldc_w 373, 3) := by decide +kernel
theorem dX5_append_18 : decode cX5_append 18 = .ok (.invokespecial 72, 3) := by decide +kernel
theorem dX5_append_21 : decode cX5_append 21 = .ok (.athrow, 1) := by decide +kernel
theorem dX5_append_22 : decode cX5_append 22 = .ok (.aload_n 0, 1) := by decide +kernel
theorem dX5_append_23 : decode cX5_append 23 = .ok (.getfield 43, 3) := by decide +kernel
theorem dX5_append_26 : decode cX5_append 26 = .ok (.invokevirtual 364, 3) := by decide +kernel
theorem dX5_append_29 : decode cX5_append 29 = .ok (.bipush 60, 2) := by decide +kernel
theorem dX5_append_31 : decode cX5_append 31 = .ok (.if_icmp .lt 14, 3) := by decide +kernel
theorem dX5_append_34 : decode cX5_append 34 = .ok (.new 85, 3) := by decide +kernel
theorem dX5_append_37 : decode cX5_append 37 = .ok (.dup, 1) := by decide +kernel
theorem dX5_append_38 : decode cX5_append 38 = .ok (.ldc_w 375, 3) := by decide +kernel
theorem dX5_append_41 : decode cX5_append 41 = .ok (.invokespecial 89, 3) := by decide +kernel
theorem dX5_append_44 : decode cX5_append 44 = .ok (.athrow, 1) := by decide +kernel
theorem dX5_append_45 : decode cX5_append 45 = .ok (.aload_n 0, 1) := by decide +kernel
theorem dX5_append_46 : decode cX5_append 46 = .ok (.getfield 43, 3) := by decide +kernel
theorem dX5_append_49 : decode cX5_append 49 = .ok (.iload_n 1, 1) := by decide +kernel
theorem dX5_append_50 : decode cX5_append 50 = .ok (.invokevirtual 377, 3) := by decide +kernel
theorem dX5_append_53 : decode cX5_append 53 = .ok (.pop, 1) := by decide +kernel
theorem dX5_append_54 : decode cX5_append 54 = .ok (.aload_n 0, 1) := by decide +kernel
theorem dX5_append_55 : decode cX5_append 55 = .ok (.getfield 43, 3) := by decide +kernel
theorem dX5_append_58 : decode cX5_append 58 = .ok (.invokevirtual 364, 3) := by decide +kernel
theorem dX5_append_61 : decode cX5_append 61 = .ok (.ireturn, 1) := by decide +kernel
theorem dX5_perform_0 : decode cX5_perform 0 = .ok (.aload_n 0, 1) := by decide +kernel
theorem dX5_perform_1 : decode cX5_perform 1 = .ok (.getfield 36, 3) := by decide +kernel
theorem dX5_perform_4 : decode cX5_perform 4 = .ok (.aload_n 0, 1) := by decide +kernel
theorem dX5_perform_5 : decode cX5_perform 5 = .ok (.getfield 43, 3) := by decide +kernel
theorem dX5_perform_8 : decode cX5_perform 8 = .ok (.invokevirtual 380, 3) := by decide +kernel
theorem dX5_perform_11 : decode cX5_perform 11 = .ok (.istore_n 1, 1) := by decide +kernel
theorem dX5_perform_12 : decode cX5_perform 12 = .ok (.aload_n 0, 1) := by decide +kernel
theorem dX5_perform_13 : decode cX5_perform 13 = .ok (.getfield 43, 3) := by decide +kernel
theorem dX5_perform_16 : decode cX5_perform 16 = .ok (.iconst 0, 1) := by decide +kernel
theorem dX5_perform_17 : decode cX5_perform 17 = .ok (.invokevirtual 343, 3) := by decide +kernel
theorem dX5_perform_20 : decode cX5_perform 20 = .ok (.iload_n 1, 1) := by decide +kernel
theorem dX5_perform_21 : decode cX5_perform 21 = .ok (.ifCond .ne 25, 3) := by decide +kernel
theorem dX5_perform_24 : decode cX5_perform 24 = .ok (.aload_n 0, 1) := by decide +kernel
theorem dX5_perform_25 : decode cX5_perform 25 = .ok (.aload_n 0, 1) := by decide +kernel
theorem dX5_perform_26 : decode cX5_perform 26 = .ok (.getfield 36, 3) := by decide +kernel
theorem dX5_perform_29 : decode cX5_perform 29 = .ok (.getfield 384, 3) := by decide +kernel
theorem dX5_perform_32 : decode cX5_perform 32 = .ok (.putfield 61, 3) := by decide +kernel
theorem dX5_perform_35 : decode cX5_perform 35 = .ok (.new 68, 3) := by decide +kernel
theorem dX5_perform_38 : decode cX5_perform 38 = .ok (.dup, 1) := by decide +kernel
theorem dX5_perform_39 : decode cX5_perform 39 = .ok (.ldc_w 387, 3) := by decide +kernel
theorem dX5_perform_42 : decode cX5_perform 42 = .ok (.invokespecial 72, 3) := by decide +kernel
theorem dX5_perform_45 : decode cX5_perform 45 = .ok (.athrow, 1) := by decide +kernel
theorem dX5_perform_46 : decode cX5_perform 46 = .ok (.aload_n 0, 1) := by decide +kernel
theorem dX5_perform_47 : decode cX5_perform 47 = .ok (.getfield 22, 3) := by decide +kernel
theorem dX5_perform_50 : decode cX5_perform 50 = .ok (.aload_n 0, 1) := by decide +kernel
theorem dX5_perform_51 : decode cX5_perform 51 = .ok (.getfield 10, 3) := by decide +kernel
theorem dX5_perform_54 : decode cX5_perform 54 = .ok (.invokevirtual 389, 3) := by decide +kernel
theorem dX5_perform_57 : decode cX5_perform 57 = .ok (.iconst 0, 1) := by decide +kernel
theorem dX5_perform_58 : decode cX5_perform 58 = .ok (.istore_n 2, 1) := by decide +kernel
theorem dX5_perform_59 : decode cX5_perform 59 = .ok (.iload_n 2, 1) := by decide +kernel
theorem dX5_perform_60 : decode cX5_perform 60 = .ok (.aload_n 0, 1) := by decide +kernel
theorem dX5_perform_61 : decode cX5_perform 61 = .ok (.getfield 36, 3) := by decide +kernel
theorem dX5_perform_64 : decode cX5_perform 64 = .ok (.getfield 392, 3) := by decide +kernel
theorem dX5_perform_67 : decode cX5_perform 67 = .ok (.invokevirtual 79, 3) := by decide +kernel
theorem dX5_perform_70 : decode cX5_perform 70 = .ok (.if_icmp .ge 39, 3) := by decide +kernel
theorem dX5_perform_73 : decode cX5_perform 73 = .ok (.aload_n 0, 1) := by decide +kernel
theorem dX5_perform_74 : decode cX5_perform 74 = .ok (.iload_n 2, 1) := by decide +kernel
theorem dX5_perform_75 : decode cX5_perform 75 = .ok (.invokevirtual 395, 3) := by decide +kernel
theorem dX5_perform_78 : decode cX5_perform 78 = .ok (.ifCond .ne 25, 3) := by decide +kernel
theorem dX5_perform_81 : decode cX5_perform 81 = .ok (.aload_n 0, 1) := by decide +kernel
theorem dX5_perform_82 : decode cX5_perform 82 = .ok (.getfield 22, 3) := by decide +kernel
theorem dX5_perform_85 : decode cX5_perform 85 = .ok (.aload_n 0, 1) := by decide +kernel
theorem dX5_perform_86 : decode cX5_perform 86 = .ok (.getfield 10, 3) := by decide +kernel
theorem dX5_perform_89 : decode cX5_perform 89 = .ok (.invokevirtual 398, 3) := by decide +kernel
theorem dX5_perform_92 : decode cX5_perform 92 = .ok (.new 202, 3) := by decide +kernel
theorem dX5_perform_95 : decode cX5_perform 95 = .ok (.dup, 1) := by decide +kernel
theorem dX5_perform_96 : decode cX5_perform 96 = .ok (.ldc_w 401, 3) := by decide +kernel
theorem dX5_perform_99 : decode cX5_perform 99 = .ok (.invokespecial 206, 3) := by decide +kernel
theorem dX5_perform_102 : decode cX5_perform 102 = .ok (.athrow, 1) := by decide +kernel
theorem dX5_perform_103 : decode cX5_perform 103 = .ok (.iinc 2 1, 3) := by decide +kernel
theorem dX5_perform_106 : decode cX5_perform 106 = .ok (.goto (-47), 3) := by decide +kernel
theorem dX5_perform_109 : decode cX5_perform 109 = .ok (.aload_n 0, 1) := by decide +kernel
theorem dX5_perform_110 : decode cX5_perform 110 = .ok (.getfield 22, 3) := by decide +kernel
theorem dX5_perform_113 : decode cX5_perform 113 = .ok (.invokevirtual 403, 3) := by decide +kernel
theorem dX5_perform_116 : decode cX5_perform 116 = .ok (.aload_n 0, 1) := by decide +kernel
theorem dX5_perform_117 : decode cX5_perform 117 = .ok (.getfield 36, 3) := by decide +kernel
theorem dX5_perform_120 : decode cX5_perform 120 = .ok (.getfield 392, 3) := by decide +kernel
theorem dX5_perform_123 : decode cX5_perform 123 = .ok (.invokevirtual 79, 3) := by decide +kernel
theorem dX5_perform_126 : decode cX5_perform 126 = .ok (.ireturn, 1) := by decide +kernel
theorem dX5_errorPosition_0 : decode cX5_errorPosition 0 = .ok (.aload_n 0, 1) := by decide +kernel
theorem dX5_errorPosition_1 : decode cX5_errorPosition 1 = .ok (.getfield 61, 3) := by decide +kernel
theorem dX5_errorPosition_4 : decode cX5_errorPosition 4 = .ok (.iconst (-1), 1) := by decide +kernel
theorem dX5_errorPosition_5 : decode cX5_errorPosition 5 = .ok (.if_icmp .ne 14, 3) := by decide +kernel
theorem dX5_errorPosition_8 : decode cX5_errorPosition 8 = .ok (.new 171, 3) := by decide +kernel
theorem dX5_errorPosition_11 : decode cX5_errorPosition 11 = .ok (.dup, 1) := by decide +kernel
theorem dX5_errorPosition_12 : decode cX5_errorPosition 12 = .ok (.ldc_w 406, 3) := by decide +kernel
theorem dX5_errorPosition_15 : decode cX5_errorPosition 15 = .ok (.invokespecial 175, 3) := by decide +kernel
theorem dX5_errorPosition_18 : decode cX5_errorPosition 18 = .ok (.athrow, 1) := by decide +kernel
theorem dX5_errorPosition_19 : decode cX5_errorPosition 19 = .ok (.aload_n 0, 1) := by decide +kernel
theorem dX5_errorPosition_20 : decode cX5_errorPosition 20 = .ok (.getfield 61, 3) := by decide +kernel
theorem dX5_errorPosition_23 : decode cX5_errorPosition 23 = .ok (.ireturn, 1) := by decide +kernel
theorem dX5_undo_0 : decode cX5_undo 0 = .ok (.aload_n 0, 1) := by decide +kernel
theorem dX5_undo_1 : decode cX5_undo 1 = .ok (.getfield 22, 3) := by decide +kernel
theorem dX5_undo_4 : decode cX5_undo 4 = .ok (.getfield 408, 3) := by decide +kernel
theorem dX5_undo_7 : decode cX5_undo 7 = .ok (.ifCond .ne 14, 3) := by decide +kernel
theorem dX5_undo_10 : decode cX5_undo 10 = .ok (.new 85, 3) := by decide +kernel
theorem dX5_undo_13 : decode cX5_undo 13 = .ok (.dup, 1) := by decide +kernel
theorem dX5_undo_14 : decode cX5_undo 14 = .ok (.ldc_w 411, 3) := by decide +kernel
theorem dX5_undo_17 : decode cX5_undo 17 = .ok (.invokespecial 89, 3) := by decide +kernel
theorem dX5_undo_20 : decode cX5_undo 20 = .ok (.athrow, 1) := by decide +kernel
theorem dX5_undo_21 : decode cX5_undo 21 = .ok (.aload_n 0, 1) := by decide +kernel
theorem dX5_undo_22 : decode cX5_undo 22 = .ok (.getfield 22, 3) := by decide +kernel
theorem dX5_undo_25 : decode cX5_undo 25 = .ok (.aload_n 0, 1) := by decide +kernel
theorem dX5_undo_26 : decode cX5_undo 26 = .ok (.getfield 10, 3) := by decide +kernel
theorem dX5_undo_29 : decode cX5_undo 29 = .ok (.invokevirtual 413, 3) := by decide +kernel
theorem dX5_undo_32 : decode cX5_undo 32 = .ok (.aload_n 0, 1) := by decide +kernel
theorem dX5_undo_33 : decode cX5_undo 33 = .ok (.getfield 22, 3) := by decide +kernel
theorem dX5_undo_36 : decode cX5_undo 36 = .ok (.getfield 408, 3) := by decide +kernel
theorem dX5_undo_39 : decode cX5_undo 39 = .ok (.ireturn, 1) := by decide +kernel
theorem dX5_save_0 : decode cX5_save 0 = .ok (.aload_n 0, 1) := by decide +kernel
theorem dX5_save_1 : decode cX5_save 1 = .ok (.getfield 16, 3) := by decide +kernel
theorem dX5_save_4 : decode cX5_save 4 = .ok (.aload_n 0, 1) := by decide +kernel
theorem dX5_save_5 : decode cX5_save 5 = .ok (.getfield 10, 3) := by decide +kernel
theorem dX5_save_8 : decode cX5_save 8 = .ok (.invokevirtual 416, 3) := by decide +kernel
theorem dX5_save_11 : decode cX5_save 11 = .ok (.aload_n 0, 1) := by decide +kernel
theorem dX5_save_12 : decode cX5_save 12 = .ok (.iconst 1, 1) := by decide +kernel
theorem dX5_save_13 : decode cX5_save 13 = .ok (.putfield 50, 3) := by decide +kernel
theorem dX5_save_16 : decode cX5_save 16 = .ok (.aload_n 0, 1) := by decide +kernel
theorem dX5_save_17 : decode cX5_save 17 = .ok (.getfield 10, 3) := by decide +kernel
theorem dX5_save_20 : decode cX5_save 20 = .ok (.getfield 210, 3) := by decide +kernel
theorem dX5_save_23 : decode cX5_save 23 = .ok (.invokevirtual 79, 3) := by decide +kernel
theorem dX5_save_26 : decode cX5_save 26 = .ok (.ireturn, 1) := by decide +kernel
theorem dX5_restore_0 : decode cX5_restore 0 = .ok (.aload_n 0, 1) := by decide +kernel
theorem dX5_restore_1 : decode cX5_restore 1 = .ok (.getfield 50, 3) := by decide +kernel
theorem dX5_restore_4 : decode cX5_restore 4 = .ok (.ifCond .ne 14, 3) := by decide +kernel
theorem dX5_restore_7 : decode cX5_restore 7 = .ok (.new 85, 3) := by decide +kernel
theorem dX5_restore_10 : decode cX5_restore 10 = .ok (.dup, 1) := by decide +kernel
theorem dX5_restore_11 : decode cX5_restore 11 = .ok (.ldc_w 419, 3) := by decide +kernel
theorem dX5_restore_14 : decode cX5_restore 14 = .ok (.invokespecial 89, 3) := by decide +kernel
theorem dX5_restore_17 : decode cX5_restore 17 = .ok (.athrow, 1) := by decide +kernel
theorem dX5_restore_18 : decode cX5_restore 18 = .ok (.aload_n 0, 1) := by decide +kernel
theorem dX5_restore_19 : decode cX5_restore 19 = .ok (.getfield 10, 3) := by decide +kernel
theorem dX5_restore_22 : decode cX5_restore 22 = .ok (.aload_n 0, 1) := by decide +kernel
theorem dX5_restore_23 : decode cX5_restore 23 = .ok (.getfield 16, 3) := by decide +kernel
theorem dX5_restore_26 : decode cX5_restore 26 = .ok (.invokevirtual 416, 3) := by decide +kernel
theorem dX5_restore_29 : decode cX5_restore 29 = .ok (.aload_n 0, 1) := by decide +kernel
theorem dX5_restore_30 : decode cX5_restore 30 = .ok (.getfield 22, 3) := by decide +kernel
theorem dX5_restore_33 : decode cX5_restore 33 = .ok (.invokevirtual 421, 3) := by decide +kernel
theorem dX5_restore_36 : decode cX5_restore 36 = .ok (.aload_n 0, 1) := by decide +kernel
theorem dX5_restore_37 : decode cX5_restore 37 = .ok (.getfield 10, 3) := by decide +kernel
theorem dX5_restore_40 : decode cX5_restore 40 = .ok (.getfield 210, 3) := by decide +kernel
theorem dX5_restore_43 : decode cX5_restore 43 = .ok (.invokevirtual 79, 3) := by decide +kernel
theorem dX5_restore_46 : decode cX5_restore 46 = .ok (.ireturn, 1) := by decide +kernel
theorem dX5_isWithin_0 : decode cX5_isWithin 0 = .ok (.iload_n 0, 1) := by decide +kernel
theorem dX5_isWithin_1 : decode cX5_isWithin 1 = .ok (.iload_n 1, 1) := by decide +kernel
theorem dX5_isWithin_2 : decode cX5_isWithin 2 = .ok (.if_icmp .lt 12, 3) := by decide +kernel
theorem dX5_isWithin_5 : decode cX5_isWithin 5 = .ok (.iload_n 0, 1) := by decide +kernel
theorem dX5_isWithin_6 : decode cX5_isWithin 6 = .ok (.iload_n 2, 1) := by decide +kernel
theorem dX5_isWithin_7 : decode cX5_isWithin 7 = .ok (.if_icmp .gt 7, 3) := by decide +kernel
theorem dX5_isWithin_10 : decode cX5_isWithin 10 = .ok (.iconst 1, 1) := by decide +kernel
theorem dX5_isWithin_11 : decode cX5_isWithin 11 = .ok (.goto 4, 3) := by decide +kernel
theorem dX5_isWithin_14 : decode cX5_isWithin 14 = .ok (.iconst 0, 1) := by decide +kernel
theorem dX5_isWithin_15 : decode cX5_isWithin 15 = .ok (.ireturn, 1) := by decide +kernel
theorem dX5_isDay_0 : decode cX5_isDay 0 = .ok (.iload_n 0, 1) := by decide +kernel
theorem dX5_isDay_1 : decode cX5_isDay 1 = .ok (.iconst 0, 1) := by decide +kernel
theorem dX5_isDay_2 : decode cX5_isDay 2 = .ok (.bipush 59, 2) := by decide +kernel
theorem dX5_isDay_4 : decode cX5_isDay 4 = .ok (.invokestatic 64, 3) := by decide +kernel
theorem dX5_isDay_7 : decode cX5_isDay 7 = .ok (.ireturn, 1) := by decide +kernel
theorem dX5_isMinute_0 : decode cX5_isMinute 0 = .ok (.iload_n 0, 1) := by decide +kernel
theorem dX5_isMinute_1 : decode cX5_isMinute 1 = .ok (.iconst 0, 1) := by decide +kernel
theorem dX5_isMinute_2 : decode cX5_isMinute 2 = .ok (.sipush 959, 3) := by decide +kernel
theorem dX5_isMinute_5 : decode cX5_isMinute 5 = .ok (.invokestatic 64, 3) := by decide +kernel
theorem dX5_isMinute_8 : decode cX5_isMinute 8 = .ok (.ireturn, 1) := by decide +kernel
theorem dX5_isRating_0 : decode cX5_isRating 0 = .ok (.iload_n 0, 1) := by decide +kernel
theorem dX5_isRating_1 : decode cX5_isRating 1 = .ok (.iconst 0, 1) := by decide +kernel
theorem dX5_isRating_2 : decode cX5_isRating 2 = .ok (.iconst 3, 1) := by decide +kernel
theorem dX5_isRating_3 : decode cX5_isRating 3 = .ok (.invokestatic 64, 3) := by decide +kernel
theorem dX5_isRating_6 : decode cX5_isRating 6 = .ok (.ireturn, 1) := by decide +kernel
theorem dX5_isGenres_0 : decode cX5_isGenres 0 = .ok (.iload_n 0, 1) := by decide +kernel
theorem dX5_isGenres_1 : decode cX5_isGenres 1 = .ok (.iconst 1, 1) := by decide +kernel
theorem dX5_isGenres_2 : decode cX5_isGenres 2 = .ok (.bipush 63, 2) := by decide +kernel
theorem dX5_isGenres_4 : decode cX5_isGenres 4 = .ok (.invokestatic 64, 3) := by decide +kernel
theorem dX5_isGenres_7 : decode cX5_isGenres 7 = .ok (.ireturn, 1) := by decide +kernel
theorem dX5_refuse_0 : decode cX5_refuse 0 = .ok (.aload_n 0, 1) := by decide +kernel
theorem dX5_refuse_1 : decode cX5_refuse 1 = .ok (.iload_n 1, 1) := by decide +kernel
theorem dX5_refuse_2 : decode cX5_refuse 2 = .ok (.putfield 54, 3) := by decide +kernel
theorem dX5_refuse_5 : decode cX5_refuse 5 = .ok (.aload_n 0, 1) := by decide +kernel
theorem dX5_refuse_6 : decode cX5_refuse 6 = .ok (.iload_n 2, 1) := by decide +kernel
theorem dX5_refuse_7 : decode cX5_refuse 7 = .ok (.putfield 58, 3) := by decide +kernel
theorem dX5_refuse_10 : decode cX5_refuse 10 = .ok (.return_, 1) := by decide +kernel
theorem dX5_faultOfPlan_0 : decode cX5_faultOfPlan 0 = .ok (.aload_n 0, 1) := by decide +kernel
theorem dX5_faultOfPlan_1 : decode cX5_faultOfPlan 1 = .ok (.getfield 10, 3) := by decide +kernel
theorem dX5_faultOfPlan_4 : decode cX5_faultOfPlan 4 = .ok (.getfield 75, 3) := by decide +kernel
theorem dX5_faultOfPlan_7 : decode cX5_faultOfPlan 7 = .ok (.iload_n 1, 1) := by decide +kernel
theorem dX5_faultOfPlan_8 : decode cX5_faultOfPlan 8 = .ok (.invokevirtual 116, 3) := by decide +kernel
theorem dX5_faultOfPlan_11 : decode cX5_faultOfPlan 11 = .ok (.ifCond .eq 17, 3) := by decide +kernel
theorem dX5_faultOfPlan_14 : decode cX5_faultOfPlan 14 = .ok (.aload_n 0, 1) := by decide +kernel
theorem dX5_faultOfPlan_15 : decode cX5_faultOfPlan 15 = .ok (.getfield 10, 3) := by decide +kernel
theorem dX5_faultOfPlan_18 : decode cX5_faultOfPlan 18 = .ok (.getfield 111, 3) := by decide +kernel
theorem dX5_faultOfPlan_21 : decode cX5_faultOfPlan 21 = .ok (.iload_n 2, 1) := by decide +kernel
theorem dX5_faultOfPlan_22 : decode cX5_faultOfPlan 22 = .ok (.invokevirtual 116, 3) := by decide +kernel
theorem dX5_faultOfPlan_25 : decode cX5_faultOfPlan 25 = .ok (.ifCond .ne 5, 3) := by decide +kernel
theorem dX5_faultOfPlan_28 : decode cX5_faultOfPlan 28 = .ok (.iconst 1, 1) := by decide +kernel
theorem dX5_faultOfPlan_29 : decode cX5_faultOfPlan 29 = .ok (.ireturn, 1) := by decide +kernel
theorem dX5_faultOfPlan_30 : decode cX5_faultOfPlan 30 = .ok (.iload_n 3, 1) := by decide +kernel
theorem dX5_faultOfPlan_31 : decode cX5_faultOfPlan 31 = .ok (.invokestatic 108, 3) := by decide +kernel
theorem dX5_faultOfPlan_34 : decode cX5_faultOfPlan 34 = .ok (.ifCond .eq 11, 3) := by decide +kernel
theorem dX5_faultOfPlan_37 : decode cX5_faultOfPlan 37 = .ok (.iload 4, 2) := by decide +kernel
theorem dX5_faultOfPlan_39 : decode cX5_faultOfPlan 39 = .ok (.invokestatic 215, 3) := by decide +kernel
theorem dX5_faultOfPlan_42 : decode cX5_faultOfPlan 42 = .ok (.ifCond .ne 5, 3) := by decide +kernel
theorem dX5_faultOfPlan_45 : decode cX5_faultOfPlan 45 = .ok (.iconst 2, 1) := by decide +kernel
theorem dX5_faultOfPlan_46 : decode cX5_faultOfPlan 46 = .ok (.ireturn, 1) := by decide +kernel
theorem dX5_faultOfPlan_47 : decode cX5_faultOfPlan 47 = .ok (.aload_n 0, 1) := by decide +kernel
theorem dX5_faultOfPlan_48 : decode cX5_faultOfPlan 48 = .ok (.getfield 29, 3) := by decide +kernel
theorem dX5_faultOfPlan_51 : decode cX5_faultOfPlan 51 = .ok (.aload_n 0, 1) := by decide +kernel
theorem dX5_faultOfPlan_52 : decode cX5_faultOfPlan 52 = .ok (.getfield 10, 3) := by decide +kernel
theorem dX5_faultOfPlan_55 : decode cX5_faultOfPlan 55 = .ok (.iconst (-1), 1) := by decide +kernel
theorem dX5_faultOfPlan_56 : decode cX5_faultOfPlan 56 = .ok (.iload_n 2, 1) := by decide +kernel
theorem dX5_faultOfPlan_57 : decode cX5_faultOfPlan 57 = .ok (.iload_n 3, 1) := by decide +kernel
theorem dX5_faultOfPlan_58 : decode cX5_faultOfPlan 58 = .ok (.invokevirtual 265, 3) := by decide +kernel
theorem dX5_faultOfPlan_61 : decode cX5_faultOfPlan 61 = .ok (.aload_n 0, 1) := by decide +kernel
theorem dX5_faultOfPlan_62 : decode cX5_faultOfPlan 62 = .ok (.getfield 29, 3) := by decide +kernel
theorem dX5_faultOfPlan_65 : decode cX5_faultOfPlan 65 = .ok (.aload_n 0, 1) := by decide +kernel
theorem dX5_faultOfPlan_66 : decode cX5_faultOfPlan 66 = .ok (.getfield 10, 3) := by decide +kernel
theorem dX5_faultOfPlan_69 : decode cX5_faultOfPlan 69 = .ok (.iload_n 1, 1) := by decide +kernel
theorem dX5_faultOfPlan_70 : decode cX5_faultOfPlan 70 = .ok (.iload 4, 2) := by decide +kernel
theorem dX5_faultOfPlan_72 : decode cX5_faultOfPlan 72 = .ok (.iload 4, 2) := by decide +kernel
theorem dX5_faultOfPlan_74 : decode cX5_faultOfPlan 74 = .ok (.aload_n 0, 1) := by decide +kernel
theorem dX5_faultOfPlan_75 : decode cX5_faultOfPlan 75 = .ok (.getfield 10, 3) := by decide +kernel
theorem dX5_faultOfPlan_78 : decode cX5_faultOfPlan 78 = .ok (.iload_n 2, 1) := by decide +kernel
theorem dX5_faultOfPlan_79 : decode cX5_faultOfPlan 79 = .ok (.iload_n 3, 1) := by decide +kernel
theorem dX5_faultOfPlan_80 : decode cX5_faultOfPlan 80 = .ok (.invokevirtual 269, 3) := by decide +kernel
theorem dX5_faultOfPlan_83 : decode cX5_faultOfPlan 83 = .ok (.iadd, 1) := by decide +kernel
theorem dX5_faultOfPlan_84 : decode cX5_faultOfPlan 84 = .ok (.invokevirtual 272, 3) := by decide +kernel
theorem dX5_faultOfPlan_87 : decode cX5_faultOfPlan 87 = .ok (.istore 5, 2) := by decide +kernel
theorem dX5_faultOfPlan_89 : decode cX5_faultOfPlan 89 = .ok (.iload 5, 2) := by decide +kernel
theorem dX5_faultOfPlan_91 : decode cX5_faultOfPlan 91 = .ok (.ifCond .eq 18, 3) := by decide +kernel
theorem dX5_faultOfPlan_94 : decode cX5_faultOfPlan 94 = .ok (.aload_n 0, 1) := by decide +kernel
theorem dX5_faultOfPlan_95 : decode cX5_faultOfPlan 95 = .ok (.iload 5, 2) := by decide +kernel
theorem dX5_faultOfPlan_97 : decode cX5_faultOfPlan 97 = .ok (.aload_n 0, 1) := by decide +kernel
theorem dX5_faultOfPlan_98 : decode cX5_faultOfPlan 98 = .ok (.getfield 29, 3) := by decide +kernel
theorem dX5_faultOfPlan_101 : decode cX5_faultOfPlan 101 = .ok (.getfield 276, 3) := by decide +kernel
theorem dX5_faultOfPlan_104 : decode cX5_faultOfPlan 104 = .ok (.invokevirtual 424, 3) := by decide +kernel
theorem dX5_faultOfPlan_107 : decode cX5_faultOfPlan 107 = .ok (.iconst 4, 1) := by decide +kernel
theorem dX5_faultOfPlan_108 : decode cX5_faultOfPlan 108 = .ok (.ireturn, 1) := by decide +kernel
theorem dX5_faultOfPlan_109 : decode cX5_faultOfPlan 109 = .ok (.aload_n 0, 1) := by decide +kernel
theorem dX5_faultOfPlan_110 : decode cX5_faultOfPlan 110 = .ok (.getfield 10, 3) := by decide +kernel
theorem dX5_faultOfPlan_113 : decode cX5_faultOfPlan 113 = .ok (.getfield 210, 3) := by decide +kernel
theorem dX5_faultOfPlan_116 : decode cX5_faultOfPlan 116 = .ok (.invokevirtual 79, 3) := by decide +kernel
theorem dX5_faultOfPlan_119 : decode cX5_faultOfPlan 119 = .ok (.bipush 30, 2) := by decide +kernel
theorem dX5_faultOfPlan_121 : decode cX5_faultOfPlan 121 = .ok (.if_icmp .lt 13, 3) := by decide +kernel
theorem dX5_faultOfPlan_124 : decode cX5_faultOfPlan 124 = .ok (.aload_n 0, 1) := by decide +kernel
theorem dX5_faultOfPlan_125 : decode cX5_faultOfPlan 125 = .ok (.bipush 10, 2) := by decide +kernel
theorem dX5_faultOfPlan_127 : decode cX5_faultOfPlan 127 = .ok (.bipush 30, 2) := by decide +kernel
theorem dX5_faultOfPlan_129 : decode cX5_faultOfPlan 129 = .ok (.invokevirtual 424, 3) := by decide +kernel
theorem dX5_faultOfPlan_132 : decode cX5_faultOfPlan 132 = .ok (.iconst 4, 1) := by decide +kernel
theorem dX5_faultOfPlan_133 : decode cX5_faultOfPlan 133 = .ok (.ireturn, 1) := by decide +kernel
theorem dX5_faultOfPlan_134 : decode cX5_faultOfPlan 134 = .ok (.iconst 0, 1) := by decide +kernel
theorem dX5_faultOfPlan_135 : decode cX5_faultOfPlan 135 = .ok (.ireturn, 1) := by decide +kernel
theorem dX5_isMoveRefused_0 : decode cX5_isMoveRefused 0 = .ok (.aload_n 0, 1) := by decide +kernel
theorem dX5_isMoveRefused_1 : decode cX5_isMoveRefused 1 = .ok (.getfield 10, 3) := by decide +kernel
theorem dX5_isMoveRefused_4 : decode cX5_isMoveRefused 4 = .ok (.getfield 75, 3) := by decide +kernel
theorem dX5_isMoveRefused_7 : decode cX5_isMoveRefused 7 = .ok (.iload_n 2, 1) := by decide +kernel
theorem dX5_isMoveRefused_8 : decode cX5_isMoveRefused 8 = .ok (.iconst 0, 1) := by decide +kernel
theorem dX5_isMoveRefused_9 : decode cX5_isMoveRefused 9 = .ok (.invokevirtual 126, 3) := by decide +kernel
theorem dX5_isMoveRefused_12 : decode cX5_isMoveRefused 12 = .ok (.istore 4, 2) := by decide +kernel
theorem dX5_isMoveRefused_14 : decode cX5_isMoveRefused 14 = .ok (.iload 4, 2) := by decide +kernel
theorem dX5_isMoveRefused_16 : decode cX5_isMoveRefused 16 = .ok (.aload_n 0, 1) := by decide +kernel
theorem dX5_isMoveRefused_17 : decode cX5_isMoveRefused 17 = .ok (.getfield 10, 3) := by decide +kernel
theorem dX5_isMoveRefused_20 : decode cX5_isMoveRefused 20 = .ok (.getfield 210, 3) := by decide +kernel
theorem dX5_isMoveRefused_23 : decode cX5_isMoveRefused 23 = .ok (.iload_n 1, 1) := by decide +kernel
theorem dX5_isMoveRefused_24 : decode cX5_isMoveRefused 24 = .ok (.iconst 5, 1) := by decide +kernel
theorem dX5_isMoveRefused_25 : decode cX5_isMoveRefused 25 = .ok (.invokevirtual 126, 3) := by decide +kernel
theorem dX5_isMoveRefused_28 : decode cX5_isMoveRefused 28 = .ok (.if_icmp .ge 13, 3) := by decide +kernel
theorem dX5_isMoveRefused_31 : decode cX5_isMoveRefused 31 = .ok (.aload_n 0, 1) := by decide +kernel
theorem dX5_isMoveRefused_32 : decode cX5_isMoveRefused 32 = .ok (.bipush 11, 2) := by decide +kernel
theorem dX5_isMoveRefused_34 : decode cX5_isMoveRefused 34 = .ok (.iload 4, 2) := by decide +kernel
theorem dX5_isMoveRefused_36 : decode cX5_isMoveRefused 36 = .ok (.invokevirtual 424, 3) := by decide +kernel
theorem dX5_isMoveRefused_39 : decode cX5_isMoveRefused 39 = .ok (.iconst 1, 1) := by decide +kernel
theorem dX5_isMoveRefused_40 : decode cX5_isMoveRefused 40 = .ok (.ireturn, 1) := by decide +kernel
theorem dX5_isMoveRefused_41 : decode cX5_isMoveRefused 41 = .ok (.aload_n 0, 1) := by decide +kernel
theorem dX5_isMoveRefused_42 : decode cX5_isMoveRefused 42 = .ok (.getfield 29, 3) := by decide +kernel
theorem dX5_isMoveRefused_45 : decode cX5_isMoveRefused 45 = .ok (.aload_n 0, 1) := by decide +kernel
theorem dX5_isMoveRefused_46 : decode cX5_isMoveRefused 46 = .ok (.getfield 10, 3) := by decide +kernel
theorem dX5_isMoveRefused_49 : decode cX5_isMoveRefused 49 = .ok (.iload_n 1, 1) := by decide +kernel
theorem dX5_isMoveRefused_50 : decode cX5_isMoveRefused 50 = .ok (.aload_n 0, 1) := by decide +kernel
theorem dX5_isMoveRefused_51 : decode cX5_isMoveRefused 51 = .ok (.getfield 10, 3) := by decide +kernel
theorem dX5_isMoveRefused_54 : decode cX5_isMoveRefused 54 = .ok (.getfield 210, 3) := by decide +kernel
theorem dX5_isMoveRefused_57 : decode cX5_isMoveRefused 57 = .ok (.iload_n 1, 1) := by decide +kernel
theorem dX5_isMoveRefused_58 : decode cX5_isMoveRefused 58 = .ok (.iconst 1, 1) := by decide +kernel
theorem dX5_isMoveRefused_59 : decode cX5_isMoveRefused 59 = .ok (.invokevirtual 126, 3) := by decide +kernel
theorem dX5_isMoveRefused_62 : decode cX5_isMoveRefused 62 = .ok (.aload_n 0, 1) := by decide +kernel
theorem dX5_isMoveRefused_63 : decode cX5_isMoveRefused 63 = .ok (.getfield 10, 3) := by decide +kernel
theorem dX5_isMoveRefused_66 : decode cX5_isMoveRefused 66 = .ok (.getfield 210, 3) := by decide +kernel
theorem dX5_isMoveRefused_69 : decode cX5_isMoveRefused 69 = .ok (.iload_n 1, 1) := by decide +kernel
theorem dX5_isMoveRefused_70 : decode cX5_isMoveRefused 70 = .ok (.iconst 2, 1) := by decide +kernel
theorem dX5_isMoveRefused_71 : decode cX5_isMoveRefused 71 = .ok (.invokevirtual 126, 3) := by decide +kernel
theorem dX5_isMoveRefused_74 : decode cX5_isMoveRefused 74 = .ok (.invokevirtual 265, 3) := by decide +kernel
theorem dX5_isMoveRefused_77 : decode cX5_isMoveRefused 77 = .ok (.aload_n 0, 1) := by decide +kernel
theorem dX5_isMoveRefused_78 : decode cX5_isMoveRefused 78 = .ok (.getfield 29, 3) := by decide +kernel
theorem dX5_isMoveRefused_81 : decode cX5_isMoveRefused 81 = .ok (.aload_n 0, 1) := by decide +kernel
theorem dX5_isMoveRefused_82 : decode cX5_isMoveRefused 82 = .ok (.getfield 10, 3) := by decide +kernel
theorem dX5_isMoveRefused_85 : decode cX5_isMoveRefused 85 = .ok (.iload_n 2, 1) := by decide +kernel
theorem dX5_isMoveRefused_86 : decode cX5_isMoveRefused 86 = .ok (.iload_n 3, 1) := by decide +kernel
theorem dX5_isMoveRefused_87 : decode cX5_isMoveRefused 87 = .ok (.iload_n 3, 1) := by decide +kernel
theorem dX5_isMoveRefused_88 : decode cX5_isMoveRefused 88 = .ok (.aload_n 0, 1) := by decide +kernel
theorem dX5_isMoveRefused_89 : decode cX5_isMoveRefused 89 = .ok (.getfield 10, 3) := by decide +kernel
theorem dX5_isMoveRefused_92 : decode cX5_isMoveRefused 92 = .ok (.iload_n 1, 1) := by decide +kernel
theorem dX5_isMoveRefused_93 : decode cX5_isMoveRefused 93 = .ok (.invokevirtual 428, 3) := by decide +kernel
theorem dX5_isMoveRefused_96 : decode cX5_isMoveRefused 96 = .ok (.iadd, 1) := by decide +kernel
theorem dX5_isMoveRefused_97 : decode cX5_isMoveRefused 97 = .ok (.invokevirtual 272, 3) := by decide +kernel
theorem dX5_isMoveRefused_100 : decode cX5_isMoveRefused 100 = .ok (.istore 5, 2) := by decide +kernel
theorem dX5_isMoveRefused_102 : decode cX5_isMoveRefused 102 = .ok (.iload 5, 2) := by decide +kernel
theorem dX5_isMoveRefused_104 : decode cX5_isMoveRefused 104 = .ok (.ifCond .eq 16, 3) := by decide +kernel
theorem dX5_isMoveRefused_107 : decode cX5_isMoveRefused 107 = .ok (.aload_n 0, 1) := by decide +kernel
theorem dX5_isMoveRefused_108 : decode cX5_isMoveRefused 108 = .ok (.iload 5, 2) := by decide +kernel
theorem dX5_isMoveRefused_110 : decode cX5_isMoveRefused 110 = .ok (.aload_n 0, 1) := by decide +kernel
theorem dX5_isMoveRefused_111 : decode cX5_isMoveRefused 111 = .ok (.getfield 29, 3) := by decide +kernel
theorem dX5_isMoveRefused_114 : decode cX5_isMoveRefused 114 = .ok (.getfield 276, 3) := by decide +kernel
theorem dX5_isMoveRefused_117 : decode cX5_isMoveRefused 117 = .ok (.invokevirtual 424, 3) := by decide +kernel
theorem dX5_isMoveRefused_120 : decode cX5_isMoveRefused 120 = .ok (.iload 5, 2) := by decide +kernel
theorem dX5_isMoveRefused_122 : decode cX5_isMoveRefused 122 = .ok (.ifCond .eq 7, 3) := by decide +kernel
theorem dX5_isMoveRefused_125 : decode cX5_isMoveRefused 125 = .ok (.iconst 1, 1) := by decide +kernel
theorem dX5_isMoveRefused_126 : decode cX5_isMoveRefused 126 = .ok (.goto 4, 3) := by decide +kernel
theorem dX5_isMoveRefused_129 : decode cX5_isMoveRefused 129 = .ok (.iconst 0, 1) := by decide +kernel
theorem dX5_isMoveRefused_130 : decode cX5_isMoveRefused 130 = .ok (.ireturn, 1) := by decide +kernel
theorem dX5_faultOfSell_0 : decode cX5_faultOfSell 0 = .ok (.aload_n 0, 1) := by decide +kernel
theorem dX5_faultOfSell_1 : decode cX5_faultOfSell 1 = .ok (.getfield 10, 3) := by decide +kernel
theorem dX5_faultOfSell_4 : decode cX5_faultOfSell 4 = .ok (.getfield 210, 3) := by decide +kernel
theorem dX5_faultOfSell_7 : decode cX5_faultOfSell 7 = .ok (.iload_n 1, 1) := by decide +kernel
theorem dX5_faultOfSell_8 : decode cX5_faultOfSell 8 = .ok (.invokevirtual 116, 3) := by decide +kernel
theorem dX5_faultOfSell_11 : decode cX5_faultOfSell 11 = .ok (.ifCond .ne 5, 3) := by decide +kernel
theorem dX5_faultOfSell_14 : decode cX5_faultOfSell 14 = .ok (.iconst 1, 1) := by decide +kernel
theorem dX5_faultOfSell_15 : decode cX5_faultOfSell 15 = .ok (.ireturn, 1) := by decide +kernel
theorem dX5_faultOfSell_16 : decode cX5_faultOfSell 16 = .ok (.iload_n 2, 1) := by decide +kernel
theorem dX5_faultOfSell_17 : decode cX5_faultOfSell 17 = .ok (.iconst 1, 1) := by decide +kernel
theorem dX5_faultOfSell_18 : decode cX5_faultOfSell 18 = .ok (.sipush 400, 3) := by decide +kernel
theorem dX5_faultOfSell_21 : decode cX5_faultOfSell 21 = .ok (.invokestatic 64, 3) := by decide +kernel
theorem dX5_faultOfSell_24 : decode cX5_faultOfSell 24 = .ok (.ifCond .ne 5, 3) := by decide +kernel
theorem dX5_faultOfSell_27 : decode cX5_faultOfSell 27 = .ok (.iconst 2, 1) := by decide +kernel
theorem dX5_faultOfSell_28 : decode cX5_faultOfSell 28 = .ok (.ireturn, 1) := by decide +kernel
theorem dX5_faultOfSell_29 : decode cX5_faultOfSell 29 = .ok (.aload_n 0, 1) := by decide +kernel
theorem dX5_faultOfSell_30 : decode cX5_faultOfSell 30 = .ok (.getfield 10, 3) := by decide +kernel
theorem dX5_faultOfSell_33 : decode cX5_faultOfSell 33 = .ok (.iload_n 1, 1) := by decide +kernel
theorem dX5_faultOfSell_34 : decode cX5_faultOfSell 34 = .ok (.invokevirtual 220, 3) := by decide +kernel
theorem dX5_faultOfSell_37 : decode cX5_faultOfSell 37 = .ok (.ifCond .ne 5, 3) := by decide +kernel
theorem dX5_faultOfSell_40 : decode cX5_faultOfSell 40 = .ok (.iconst 3, 1) := by decide +kernel
theorem dX5_faultOfSell_41 : decode cX5_faultOfSell 41 = .ok (.ireturn, 1) := by decide +kernel
theorem dX5_faultOfSell_42 : decode cX5_faultOfSell 42 = .ok (.aload_n 0, 1) := by decide +kernel
theorem dX5_faultOfSell_43 : decode cX5_faultOfSell 43 = .ok (.getfield 10, 3) := by decide +kernel
theorem dX5_faultOfSell_46 : decode cX5_faultOfSell 46 = .ok (.iload_n 1, 1) := by decide +kernel
theorem dX5_faultOfSell_47 : decode cX5_faultOfSell 47 = .ok (.invokevirtual 431, 3) := by decide +kernel
theorem dX5_faultOfSell_50 : decode cX5_faultOfSell 50 = .ok (.aload_n 0, 1) := by decide +kernel
theorem dX5_faultOfSell_51 : decode cX5_faultOfSell 51 = .ok (.getfield 10, 3) := by decide +kernel
theorem dX5_faultOfSell_54 : decode cX5_faultOfSell 54 = .ok (.getfield 210, 3) := by decide +kernel
theorem dX5_faultOfSell_57 : decode cX5_faultOfSell 57 = .ok (.iload_n 1, 1) := by decide +kernel
theorem dX5_faultOfSell_58 : decode cX5_faultOfSell 58 = .ok (.iconst 5, 1) := by decide +kernel
theorem dX5_faultOfSell_59 : decode cX5_faultOfSell 59 = .ok (.invokevirtual 126, 3) := by decide +kernel
theorem dX5_faultOfSell_62 : decode cX5_faultOfSell 62 = .ok (.isub, 1) := by decide +kernel
theorem dX5_faultOfSell_63 : decode cX5_faultOfSell 63 = .ok (.istore_n 3, 1) := by decide +kernel
theorem dX5_faultOfSell_64 : decode cX5_faultOfSell 64 = .ok (.iload_n 3, 1) := by decide +kernel
theorem dX5_faultOfSell_65 : decode cX5_faultOfSell 65 = .ok (.iload_n 2, 1) := by decide +kernel
theorem dX5_faultOfSell_66 : decode cX5_faultOfSell 66 = .ok (.if_icmp .ge 12, 3) := by decide +kernel
theorem dX5_faultOfSell_69 : decode cX5_faultOfSell 69 = .ok (.aload_n 0, 1) := by decide +kernel
theorem dX5_faultOfSell_70 : decode cX5_faultOfSell 70 = .ok (.bipush 12, 2) := by decide +kernel
theorem dX5_faultOfSell_72 : decode cX5_faultOfSell 72 = .ok (.iload_n 3, 1) := by decide +kernel
theorem dX5_faultOfSell_73 : decode cX5_faultOfSell 73 = .ok (.invokevirtual 424, 3) := by decide +kernel
theorem dX5_faultOfSell_76 : decode cX5_faultOfSell 76 = .ok (.iconst 4, 1) := by decide +kernel
theorem dX5_faultOfSell_77 : decode cX5_faultOfSell 77 = .ok (.ireturn, 1) := by decide +kernel
theorem dX5_faultOfSell_78 : decode cX5_faultOfSell 78 = .ok (.iconst 0, 1) := by decide +kernel
theorem dX5_faultOfSell_79 : decode cX5_faultOfSell 79 = .ok (.ireturn, 1) := by decide +kernel
theorem dX5_faultOfCancel_0 : decode cX5_faultOfCancel 0 = .ok (.aload_n 0, 1) := by decide +kernel
theorem dX5_faultOfCancel_1 : decode cX5_faultOfCancel 1 = .ok (.getfield 10, 3) := by decide +kernel
theorem dX5_faultOfCancel_4 : decode cX5_faultOfCancel 4 = .ok (.getfield 210, 3) := by decide +kernel
theorem dX5_faultOfCancel_7 : decode cX5_faultOfCancel 7 = .ok (.iload_n 1, 1) := by decide +kernel
theorem dX5_faultOfCancel_8 : decode cX5_faultOfCancel 8 = .ok (.invokevirtual 116, 3) := by decide +kernel
theorem dX5_faultOfCancel_11 : decode cX5_faultOfCancel 11 = .ok (.ifCond .ne 5, 3) := by decide +kernel
theorem dX5_faultOfCancel_14 : decode cX5_faultOfCancel 14 = .ok (.iconst 1, 1) := by decide +kernel
theorem dX5_faultOfCancel_15 : decode cX5_faultOfCancel 15 = .ok (.ireturn, 1) := by decide +kernel
theorem dX5_faultOfCancel_16 : decode cX5_faultOfCancel 16 = .ok (.aload_n 0, 1) := by decide +kernel
theorem dX5_faultOfCancel_17 : decode cX5_faultOfCancel 17 = .ok (.getfield 10, 3) := by decide +kernel
theorem dX5_faultOfCancel_20 : decode cX5_faultOfCancel 20 = .ok (.iload_n 1, 1) := by decide +kernel
theorem dX5_faultOfCancel_21 : decode cX5_faultOfCancel 21 = .ok (.invokevirtual 220, 3) := by decide +kernel
theorem dX5_faultOfCancel_24 : decode cX5_faultOfCancel 24 = .ok (.ifCond .eq 7, 3) := by decide +kernel
theorem dX5_faultOfCancel_27 : decode cX5_faultOfCancel 27 = .ok (.iconst 0, 1) := by decide +kernel
theorem dX5_faultOfCancel_28 : decode cX5_faultOfCancel 28 = .ok (.goto 4, 3) := by decide +kernel
theorem dX5_faultOfCancel_31 : decode cX5_faultOfCancel 31 = .ok (.iconst 3, 1) := by decide +kernel
theorem dX5_faultOfCancel_32 : decode cX5_faultOfCancel 32 = .ok (.ireturn, 1) := by decide +kernel
theorem dX5_faultOfFail_0 : decode cX5_faultOfFail 0 = .ok (.aload_n 0, 1) := by decide +kernel
theorem dX5_faultOfFail_1 : decode cX5_faultOfFail 1 = .ok (.getfield 10, 3) := by decide +kernel
theorem dX5_faultOfFail_4 : decode cX5_faultOfFail 4 = .ok (.getfield 75, 3) := by decide +kernel
theorem dX5_faultOfFail_7 : decode cX5_faultOfFail 7 = .ok (.iload_n 1, 1) := by decide +kernel
theorem dX5_faultOfFail_8 : decode cX5_faultOfFail 8 = .ok (.invokevirtual 116, 3) := by decide +kernel
theorem dX5_faultOfFail_11 : decode cX5_faultOfFail 11 = .ok (.ifCond .ne 5, 3) := by decide +kernel
theorem dX5_faultOfFail_14 : decode cX5_faultOfFail 14 = .ok (.iconst 1, 1) := by decide +kernel
theorem dX5_faultOfFail_15 : decode cX5_faultOfFail 15 = .ok (.ireturn, 1) := by decide +kernel
theorem dX5_faultOfFail_16 : decode cX5_faultOfFail 16 = .ok (.iload_n 2, 1) := by decide +kernel
theorem dX5_faultOfFail_17 : decode cX5_faultOfFail 17 = .ok (.aload_n 0, 1) := by decide +kernel
theorem dX5_faultOfFail_18 : decode cX5_faultOfFail 18 = .ok (.getfield 10, 3) := by decide +kernel
theorem dX5_faultOfFail_21 : decode cX5_faultOfFail 21 = .ok (.getfield 330, 3) := by decide +kernel
theorem dX5_faultOfFail_24 : decode cX5_faultOfFail 24 = .ok (.bipush 59, 2) := by decide +kernel
theorem dX5_faultOfFail_26 : decode cX5_faultOfFail 26 = .ok (.invokestatic 64, 3) := by decide +kernel
theorem dX5_faultOfFail_29 : decode cX5_faultOfFail 29 = .ok (.ifCond .ne 5, 3) := by decide +kernel
theorem dX5_faultOfFail_32 : decode cX5_faultOfFail 32 = .ok (.iconst 2, 1) := by decide +kernel
theorem dX5_faultOfFail_33 : decode cX5_faultOfFail 33 = .ok (.ireturn, 1) := by decide +kernel
theorem dX5_faultOfFail_34 : decode cX5_faultOfFail 34 = .ok (.aload_n 0, 1) := by decide +kernel
theorem dX5_faultOfFail_35 : decode cX5_faultOfFail 35 = .ok (.getfield 10, 3) := by decide +kernel
theorem dX5_faultOfFail_38 : decode cX5_faultOfFail 38 = .ok (.getfield 75, 3) := by decide +kernel
theorem dX5_faultOfFail_41 : decode cX5_faultOfFail 41 = .ok (.iload_n 1, 1) := by decide +kernel
theorem dX5_faultOfFail_42 : decode cX5_faultOfFail 42 = .ok (.iconst 3, 1) := by decide +kernel
theorem dX5_faultOfFail_43 : decode cX5_faultOfFail 43 = .ok (.invokevirtual 126, 3) := by decide +kernel
theorem dX5_faultOfFail_46 : decode cX5_faultOfFail 46 = .ok (.iconst (-1), 1) := by decide +kernel
theorem dX5_faultOfFail_47 : decode cX5_faultOfFail 47 = .ok (.if_icmp .ne 7, 3) := by decide +kernel
theorem dX5_faultOfFail_50 : decode cX5_faultOfFail 50 = .ok (.iconst 0, 1) := by decide +kernel
theorem dX5_faultOfFail_51 : decode cX5_faultOfFail 51 = .ok (.goto 4, 3) := by decide +kernel
