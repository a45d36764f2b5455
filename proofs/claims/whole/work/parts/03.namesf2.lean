theorem dX6_at_0 : decode cX6_at 0 = .ok (.iload_n 1, 1) := by decide +kernel
theorem dX6_at_1 : decode cX6_at 1 = .ok (.invokestatic 74, 3) := by decide +kernel
theorem dX6_at_4 : decode cX6_at 4 = .ok (.ifCond .eq 23, 3) := by decide +kernel
theorem dX6_at_7 : decode cX6_at 7 = .ok (.iload_n 2, 1) := by decide +kernel
theorem dX6_at_8 : decode cX6_at 8 = .ok (.iconst 0, 1) := by decide +kernel
theorem dX6_at_9 : decode cX6_at 9 = .ok (.sipush 1200, 3) := by decide +kernel
theorem dX6_at_12 : decode cX6_at 12 = .ok (.invokestatic 64, 3) := by decide +kernel
theorem dX6_at_15 : decode cX6_at 15 = .ok (.ifCond .eq 12, 3) := by decide +kernel
theorem dX6_at_18 : decode cX6_at 18 = .ok (.iload_n 3, 1) := by decide +kernel
theorem dX6_at_19 : decode cX6_at 19 = .ok (.iconst 0, 1) := by decide +kernel
theorem dX6_at_20 : decode cX6_at 20 = .ok (.iconst 3, 1) := by decide +kernel
theorem dX6_at_21 : decode cX6_at 21 = .ok (.invokestatic 64, 3) := by decide +kernel
theorem dX6_at_24 : decode cX6_at 24 = .ok (.ifCond .ne 9, 3) := by decide +kernel
theorem dX6_at_27 : decode cX6_at 27 = .ok (.aload_n 0, 1) := by decide +kernel
theorem dX6_at_28 : decode cX6_at 28 = .ok (.iconst 1, 1) := by decide +kernel
theorem dX6_at_29 : decode cX6_at 29 = .ok (.invokevirtual 45, 3) := by decide +kernel
theorem dX6_at_32 : decode cX6_at 32 = .ok (.ireturn, 1) := by decide +kernel
theorem dX6_at_33 : decode cX6_at 33 = .ok (.iconst 0, 1) := by decide +kernel
theorem dX6_at_34 : decode cX6_at 34 = .ok (.istore 4, 2) := by decide +kernel
theorem dX6_at_36 : decode cX6_at 36 = .ok (.iconst 0, 1) := by decide +kernel
theorem dX6_at_37 : decode cX6_at 37 = .ok (.istore 5, 2) := by decide +kernel
theorem dX6_at_39 : decode cX6_at 39 = .ok (.iconst 0, 1) := by decide +kernel
theorem dX6_at_40 : decode cX6_at 40 = .ok (.istore 6, 2) := by decide +kernel
theorem dX6_at_42 : decode cX6_at 42 = .ok (.iconst (-1), 1) := by decide +kernel
theorem dX6_at_43 : decode cX6_at 43 = .ok (.istore 7, 2) := by decide +kernel
theorem dX6_at_45 : decode cX6_at 45 = .ok (.iconst 0, 1) := by decide +kernel
theorem dX6_at_46 : decode cX6_at 46 = .ok (.istore 8, 2) := by decide +kernel
theorem dX6_at_48 : decode cX6_at 48 = .ok (.iload 8, 2) := by decide +kernel
theorem dX6_at_50 : decode cX6_at 50 = .ok (.aload_n 0, 1) := by decide +kernel
theorem dX6_at_51 : decode cX6_at 51 = .ok (.getfield 9, 3) := by decide +kernel
theorem dX6_at_54 : decode cX6_at 54 = .ok (.iconst 4, 1) := by decide +kernel
theorem dX6_at_55 : decode cX6_at 55 = .ok (.iaload, 1) := by decide +kernel
theorem dX6_at_56 : decode cX6_at 56 = .ok (.if_icmp .ge 149, 3) := by decide +kernel
theorem dX6_at_59 : decode cX6_at 59 = .ok (.aload_n 0, 1) := by decide +kernel
theorem dX6_at_60 : decode cX6_at 60 = .ok (.iload 8, 2) := by decide +kernel
theorem dX6_at_62 : decode cX6_at 62 = .ok (.invokevirtual 107, 3) := by decide +kernel
theorem dX6_at_65 : decode cX6_at 65 = .ok (.ifCond .eq 134, 3) := by decide +kernel
theorem dX6_at_68 : decode cX6_at 68 = .ok (.aload_n 0, 1) := by decide +kernel
theorem dX6_at_69 : decode cX6_at 69 = .ok (.iload 8, 2) := by decide +kernel
theorem dX6_at_71 : decode cX6_at 71 = .ok (.iconst 2, 1) := by decide +kernel
theorem dX6_at_72 : decode cX6_at 72 = .ok (.invokevirtual 89, 3) := by decide +kernel
theorem dX6_at_75 : decode cX6_at 75 = .ok (.iload_n 1, 1) := by decide +kernel
theorem dX6_at_76 : decode cX6_at 76 = .ok (.if_icmp .ne 123, 3) := by decide +kernel
theorem dX6_at_79 : decode cX6_at 79 = .ok (.iload_n 2, 1) := by decide +kernel
theorem dX6_at_80 : decode cX6_at 80 = .ok (.aload_n 0, 1) := by decide +kernel
theorem dX6_at_81 : decode cX6_at 81 = .ok (.iload 8, 2) := by decide +kernel
theorem dX6_at_83 : decode cX6_at 83 = .ok (.iconst 3, 1) := by decide +kernel
theorem dX6_at_84 : decode cX6_at 84 = .ok (.invokevirtual 89, 3) := by decide +kernel
theorem dX6_at_87 : decode cX6_at 87 = .ok (.aload_n 0, 1) := by decide +kernel
theorem dX6_at_88 : decode cX6_at 88 = .ok (.iload 8, 2) := by decide +kernel
theorem dX6_at_90 : decode cX6_at 90 = .ok (.invokevirtual 151, 3) := by decide +kernel
theorem dX6_at_93 : decode cX6_at 93 = .ok (.iconst 1, 1) := by decide +kernel
theorem dX6_at_94 : decode cX6_at 94 = .ok (.isub, 1) := by decide +kernel
theorem dX6_at_95 : decode cX6_at 95 = .ok (.invokestatic 64, 3) := by decide +kernel
theorem dX6_at_98 : decode cX6_at 98 = .ok (.istore 9, 2) := by decide +kernel
theorem dX6_at_100 : decode cX6_at 100 = .ok (.iload 4, 2) := by decide +kernel
theorem dX6_at_102 : decode cX6_at 102 = .ok (.iload 9, 2) := by decide +kernel
theorem dX6_at_104 : decode cX6_at 104 = .ok (.ifCond .eq 7, 3) := by decide +kernel
theorem dX6_at_107 : decode cX6_at 107 = .ok (.iconst 1, 1) := by decide +kernel
theorem dX6_at_108 : decode cX6_at 108 = .ok (.goto 4, 3) := by decide +kernel
theorem dX6_at_111 : decode cX6_at 111 = .ok (.iconst 0, 1) := by decide +kernel
theorem dX6_at_112 : decode cX6_at 112 = .ok (.iadd, 1) := by decide +kernel
theorem dX6_at_113 : decode cX6_at 113 = .ok (.istore 4, 2) := by decide +kernel
theorem dX6_at_115 : decode cX6_at 115 = .ok (.iload 6, 2) := by decide +kernel
theorem dX6_at_117 : decode cX6_at 117 = .ok (.iload 9, 2) := by decide +kernel
theorem dX6_at_119 : decode cX6_at 119 = .ok (.ifCond .eq 18, 3) := by decide +kernel
theorem dX6_at_122 : decode cX6_at 122 = .ok (.aload_n 0, 1) := by decide +kernel
theorem dX6_at_123 : decode cX6_at 123 = .ok (.aload_n 0, 1) := by decide +kernel
theorem dX6_at_124 : decode cX6_at 124 = .ok (.iload 8, 2) := by decide +kernel
theorem dX6_at_126 : decode cX6_at 126 = .ok (.iconst 0, 1) := by decide +kernel
theorem dX6_at_127 : decode cX6_at 127 = .ok (.invokevirtual 89, 3) := by decide +kernel
theorem dX6_at_130 : decode cX6_at 130 = .ok (.iconst 0, 1) := by decide +kernel
theorem dX6_at_131 : decode cX6_at 131 = .ok (.invokevirtual 95, 3) := by decide +kernel
theorem dX6_at_134 : decode cX6_at 134 = .ok (.goto 4, 3) := by decide +kernel
theorem dX6_at_137 : decode cX6_at 137 = .ok (.iconst 0, 1) := by decide +kernel
theorem dX6_at_138 : decode cX6_at 138 = .ok (.iadd, 1) := by decide +kernel
theorem dX6_at_139 : decode cX6_at 139 = .ok (.istore 6, 2) := by decide +kernel
theorem dX6_at_141 : decode cX6_at 141 = .ok (.iload 9, 2) := by decide +kernel
theorem dX6_at_143 : decode cX6_at 143 = .ok (.ifCond .eq 14, 3) := by decide +kernel
theorem dX6_at_146 : decode cX6_at 146 = .ok (.iload 7, 2) := by decide +kernel
theorem dX6_at_148 : decode cX6_at 148 = .ok (.iconst (-1), 1) := by decide +kernel
theorem dX6_at_149 : decode cX6_at 149 = .ok (.if_icmp .ne 8, 3) := by decide +kernel
theorem dX6_at_152 : decode cX6_at 152 = .ok (.iload 8, 2) := by decide +kernel
theorem dX6_at_154 : decode cX6_at 154 = .ok (.goto 5, 3) := by decide +kernel
theorem dX6_at_157 : decode cX6_at 157 = .ok (.iload 7, 2) := by decide +kernel
theorem dX6_at_159 : decode cX6_at 159 = .ok (.istore 7, 2) := by decide +kernel
theorem dX6_at_161 : decode cX6_at 161 = .ok (.iload 5, 2) := by decide +kernel
theorem dX6_at_163 : decode cX6_at 163 = .ok (.iload_n 2, 1) := by decide +kernel
theorem dX6_at_164 : decode cX6_at 164 = .ok (.aload_n 0, 1) := by decide +kernel
theorem dX6_at_165 : decode cX6_at 165 = .ok (.iload 8, 2) := by decide +kernel
theorem dX6_at_167 : decode cX6_at 167 = .ok (.invokevirtual 151, 3) := by decide +kernel
theorem dX6_at_170 : decode cX6_at 170 = .ok (.aload_n 0, 1) := by decide +kernel
theorem dX6_at_171 : decode cX6_at 171 = .ok (.iload 8, 2) := by decide +kernel
theorem dX6_at_173 : decode cX6_at 173 = .ok (.invokevirtual 151, 3) := by decide +kernel
theorem dX6_at_176 : decode cX6_at 176 = .ok (.aload_n 0, 1) := by decide +kernel
theorem dX6_at_177 : decode cX6_at 177 = .ok (.iload 8, 2) := by decide +kernel
theorem dX6_at_179 : decode cX6_at 179 = .ok (.invokevirtual 154, 3) := by decide +kernel
theorem dX6_at_182 : decode cX6_at 182 = .ok (.iadd, 1) := by decide +kernel
theorem dX6_at_183 : decode cX6_at 183 = .ok (.iconst 1, 1) := by decide +kernel
theorem dX6_at_184 : decode cX6_at 184 = .ok (.isub, 1) := by decide +kernel
theorem dX6_at_185 : decode cX6_at 185 = .ok (.invokestatic 64, 3) := by decide +kernel
theorem dX6_at_188 : decode cX6_at 188 = .ok (.ifCond .eq 7, 3) := by decide +kernel
theorem dX6_at_191 : decode cX6_at 191 = .ok (.iconst 1, 1) := by decide +kernel
theorem dX6_at_192 : decode cX6_at 192 = .ok (.goto 4, 3) := by decide +kernel
theorem dX6_at_195 : decode cX6_at 195 = .ok (.iconst 0, 1) := by decide +kernel
theorem dX6_at_196 : decode cX6_at 196 = .ok (.iadd, 1) := by decide +kernel
theorem dX6_at_197 : decode cX6_at 197 = .ok (.istore 5, 2) := by decide +kernel
theorem dX6_at_199 : decode cX6_at 199 = .ok (.iinc 8 1, 3) := by decide +kernel
theorem dX6_at_202 : decode cX6_at 202 = .ok (.goto (-154), 3) := by decide +kernel
theorem dX6_at_205 : decode cX6_at 205 = .ok (.aload_n 0, 1) := by decide +kernel
theorem dX6_at_206 : decode cX6_at 206 = .ok (.iload_n 3, 1) := by decide +kernel
theorem dX6_at_207 : decode cX6_at 207 = .ok (.ifCond .ne 8, 3) := by decide +kernel
theorem dX6_at_210 : decode cX6_at 210 = .ok (.iload 4, 2) := by decide +kernel
theorem dX6_at_212 : decode cX6_at 212 = .ok (.goto 25, 3) := by decide +kernel
theorem dX6_at_215 : decode cX6_at 215 = .ok (.iload_n 3, 1) := by decide +kernel
theorem dX6_at_216 : decode cX6_at 216 = .ok (.iconst 1, 1) := by decide +kernel
theorem dX6_at_217 : decode cX6_at 217 = .ok (.if_icmp .ne 8, 3) := by decide +kernel
theorem dX6_at_220 : decode cX6_at 220 = .ok (.iload 5, 2) := by decide +kernel
theorem dX6_at_222 : decode cX6_at 222 = .ok (.goto 15, 3) := by decide +kernel
theorem dX6_at_225 : decode cX6_at 225 = .ok (.iload_n 3, 1) := by decide +kernel
theorem dX6_at_226 : decode cX6_at 226 = .ok (.iconst 2, 1) := by decide +kernel
theorem dX6_at_227 : decode cX6_at 227 = .ok (.if_icmp .ne 8, 3) := by decide +kernel
theorem dX6_at_230 : decode cX6_at 230 = .ok (.iload 6, 2) := by decide +kernel
theorem dX6_at_232 : decode cX6_at 232 = .ok (.goto 5, 3) := by decide +kernel
theorem dX6_at_235 : decode cX6_at 235 = .ok (.iload 7, 2) := by decide +kernel
theorem dX6_at_237 : decode cX6_at 237 = .ok (.invokevirtual 71, 3) := by decide +kernel
theorem dX6_at_240 : decode cX6_at 240 = .ok (.ireturn, 1) := by decide +kernel
set_option maxRecDepth 20000 in
theorem ggX6_refusal_X6_fails : GoodIn wsX6_refusal wsX6_fails := goodIn_r _ [7, 8, 13, 14, 15, 16, 17, 18, 19, 20, 21, 22, 23, 24, 25, 26, 27, 28, 29, 30, 31, 32, 33, 34, 35, 36, 37, 38, 39] (by decide +kernel) (by decide +kernel)
set_option maxRecDepth 20000 in
theorem gX6_refusal_X6_fails : GoodIn wsX6_refusal (wsV RX6 45 RX6 yX6_fails wsX6_fails) := goodIn_app (goodIn_of _ (by decide +kernel)) ggX6_refusal_X6_fails
set_option maxRecDepth 20000 in
theorem ggX6_refusal_X6_done : GoodIn wsX6_refusal wsX6_done := goodIn_r _ [12, 8, 13, 14, 15, 16, 17, 18, 19, 20, 21, 22, 23, 24, 25, 26, 27, 28, 29, 30, 31, 32, 33, 34, 35, 36, 37, 38, 39] (by decide +kernel) (by decide +kernel)
set_option maxRecDepth 20000 in
theorem gX6_refusal_X6_done : GoodIn wsX6_refusal (wsV RX6 71 RX6 yX6_done wsX6_done) := goodIn_app (goodIn_of _ (by decide +kernel)) ggX6_refusal_X6_done
theorem dX6_refusal_0 : decode cX6_refusal 0 = .ok (.aload_n 0, 1) := by decide +kernel
theorem dX6_refusal_1 : decode cX6_refusal 1 = .ok (.getfield 39, 3) := by decide +kernel
theorem dX6_refusal_4 : decode cX6_refusal 4 = .ok (.ifCond .ne 11, 3) := by decide +kernel
theorem dX6_refusal_7 : decode cX6_refusal 7 = .ok (.aload_n 0, 1) := by decide +kernel
theorem dX6_refusal_8 : decode cX6_refusal 8 = .ok (.iconst 1, 1) := by decide +kernel
theorem dX6_refusal_9 : decode cX6_refusal 9 = .ok (.invokevirtual 45, 3) := by decide +kernel
theorem dX6_refusal_12 : decode cX6_refusal 12 = .ok (.goto 22, 3) := by decide +kernel
theorem dX6_refusal_15 : decode cX6_refusal 15 = .ok (.aload_n 0, 1) := by decide +kernel
theorem dX6_refusal_16 : decode cX6_refusal 16 = .ok (.iload_n 1, 1) := by decide +kernel
theorem dX6_refusal_17 : decode cX6_refusal 17 = .ok (.ifCond .eq 10, 3) := by decide +kernel
theorem dX6_refusal_20 : decode cX6_refusal 20 = .ok (.aload_n 0, 1) := by decide +kernel
theorem dX6_refusal_21 : decode cX6_refusal 21 = .ok (.getfield 42, 3) := by decide +kernel
theorem dX6_refusal_24 : decode cX6_refusal 24 = .ok (.goto 7, 3) := by decide +kernel
theorem dX6_refusal_27 : decode cX6_refusal 27 = .ok (.aload_n 0, 1) := by decide +kernel
theorem dX6_refusal_28 : decode cX6_refusal 28 = .ok (.getfield 39, 3) := by decide +kernel
theorem dX6_refusal_31 : decode cX6_refusal 31 = .ok (.invokevirtual 71, 3) := by decide +kernel
theorem dX6_refusal_34 : decode cX6_refusal 34 = .ok (.ireturn, 1) := by decide +kernel
set_option maxRecDepth 20000 in
theorem ggX6_advance_X6_in : GoodIn wsX6_advance wsX6_in := goodIn_r _ [5] (by decide +kernel) (by decide +kernel)
set_option maxRecDepth 20000 in
theorem gX6_advance_X6_in : GoodIn wsX6_advance (va_wsS RX6 64 yX6_in wsX6_in) := goodIn_app (goodIn_of _ (by decide +kernel)) ggX6_advance_X6_in
set_option maxRecDepth 20000 in
theorem ggX6_advance_X6_fails : GoodIn wsX6_advance wsX6_fails := goodIn_r _ [9, 10, 29, 30, 31, 32, 33, 34, 35, 36, 37, 38, 39, 40, 41, 42, 43, 44, 45, 46, 47, 48, 49, 50, 51, 52, 53, 54, 55] (by decide +kernel) (by decide +kernel)
set_option maxRecDepth 20000 in
theorem gX6_advance_X6_fails : GoodIn wsX6_advance (wsV RX6 45 RX6 yX6_fails wsX6_fails) := goodIn_app (goodIn_of _ (by decide +kernel)) ggX6_advance_X6_fails
set_option maxRecDepth 20000 in
theorem ggX6_advance_X6_remembers : GoodIn wsX6_advance wsX6_remembers := goodIn_ca (goodIn_r _ [14, 15, 1, 16, 17, 18, 4, 19, 20, 21, 22, 23, 24, 29, 30, 31, 32, 33, 34, 35, 36, 37, 38, 39, 40, 41, 42, 43, 44, 45, 46, 47, 48, 49, 50, 51, 52, 53, 54, 55] (by decide +kernel) (by decide +kernel)) (goodIn_sub (fun _ h => List.mem_cons_of_mem _ (List.mem_append_right _ h)) (by decide +kernel))
set_option maxRecDepth 20000 in
theorem gX6_advance_X6_remembers : GoodIn wsX6_advance (wsV RX6 68 RX6 yX6_remembers wsX6_remembers) := goodIn_app (goodIn_of _ (by decide +kernel)) ggX6_advance_X6_remembers
set_option maxRecDepth 20000 in
theorem ggX6_advance_X6_done : GoodIn wsX6_advance wsX6_done := goodIn_r _ [28, 10, 29, 30, 31, 32, 33, 34, 35, 36, 37, 38, 39, 40, 41, 42, 43, 44, 45, 46, 47, 48, 49, 50, 51, 52, 53, 54, 55] (by decide +kernel) (by decide +kernel)
set_option maxRecDepth 20000 in
theorem gX6_advance_X6_done : GoodIn wsX6_advance (wsV RX6 71 RX6 yX6_done wsX6_done) := goodIn_app (goodIn_of _ (by decide +kernel)) ggX6_advance_X6_done
theorem dX6_advance_0 : decode cX6_advance 0 = .ok (.iload_n 1, 1) := by decide +kernel
theorem dX6_advance_1 : decode cX6_advance 1 = .ok (.iconst 1, 1) := by decide +kernel
theorem dX6_advance_2 : decode cX6_advance 2 = .ok (.bipush 30, 2) := by decide +kernel
theorem dX6_advance_4 : decode cX6_advance 4 = .ok (.invokestatic 64, 3) := by decide +kernel
theorem dX6_advance_7 : decode cX6_advance 7 = .ok (.ifCond .eq 16, 3) := by decide +kernel
theorem dX6_advance_10 : decode cX6_advance 10 = .ok (.aload_n 0, 1) := by decide +kernel
theorem dX6_advance_11 : decode cX6_advance 11 = .ok (.getfield 9, 3) := by decide +kernel
theorem dX6_advance_14 : decode cX6_advance 14 = .ok (.iconst 0, 1) := by decide +kernel
theorem dX6_advance_15 : decode cX6_advance 15 = .ok (.iaload, 1) := by decide +kernel
theorem dX6_advance_16 : decode cX6_advance 16 = .ok (.iload_n 1, 1) := by decide +kernel
theorem dX6_advance_17 : decode cX6_advance 17 = .ok (.iadd, 1) := by decide +kernel
theorem dX6_advance_18 : decode cX6_advance 18 = .ok (.bipush 60, 2) := by decide +kernel
theorem dX6_advance_20 : decode cX6_advance 20 = .ok (.if_icmp .lt 9, 3) := by decide +kernel
theorem dX6_advance_23 : decode cX6_advance 23 = .ok (.aload_n 0, 1) := by decide +kernel
theorem dX6_advance_24 : decode cX6_advance 24 = .ok (.iconst 1, 1) := by decide +kernel
theorem dX6_advance_25 : decode cX6_advance 25 = .ok (.invokevirtual 45, 3) := by decide +kernel
theorem dX6_advance_28 : decode cX6_advance 28 = .ok (.ireturn, 1) := by decide +kernel
theorem dX6_advance_29 : decode cX6_advance 29 = .ok (.aload_n 0, 1) := by decide +kernel
theorem dX6_advance_30 : decode cX6_advance 30 = .ok (.invokevirtual 68, 3) := by decide +kernel
theorem dX6_advance_33 : decode cX6_advance 33 = .ok (.aload_n 0, 1) := by decide +kernel
theorem dX6_advance_34 : decode cX6_advance 34 = .ok (.getfield 9, 3) := by decide +kernel
theorem dX6_advance_37 : decode cX6_advance 37 = .ok (.iconst 0, 1) := by decide +kernel
theorem dX6_advance_38 : decode cX6_advance 38 = .ok (.dup2, 1) := by decide +kernel
theorem dX6_advance_39 : decode cX6_advance 39 = .ok (.iaload, 1) := by decide +kernel
theorem dX6_advance_40 : decode cX6_advance 40 = .ok (.iload_n 1, 1) := by decide +kernel
theorem dX6_advance_41 : decode cX6_advance 41 = .ok (.iadd, 1) := by decide +kernel
theorem dX6_advance_42 : decode cX6_advance 42 = .ok (.iastore, 1) := by decide +kernel
theorem dX6_advance_43 : decode cX6_advance 43 = .ok (.aload_n 0, 1) := by decide +kernel
theorem dX6_advance_44 : decode cX6_advance 44 = .ok (.aload_n 0, 1) := by decide +kernel
theorem dX6_advance_45 : decode cX6_advance 45 = .ok (.getfield 9, 3) := by decide +kernel
theorem dX6_advance_48 : decode cX6_advance 48 = .ok (.iconst 0, 1) := by decide +kernel
theorem dX6_advance_49 : decode cX6_advance 49 = .ok (.iaload, 1) := by decide +kernel
theorem dX6_advance_50 : decode cX6_advance 50 = .ok (.invokevirtual 71, 3) := by decide +kernel
theorem dX6_advance_53 : decode cX6_advance 53 = .ok (.ireturn, 1) := by decide +kernel
set_option maxRecDepth 20000 in
theorem ggX6_sumOf_X6_stands : GoodIn wsX6_sumOf wsX6_stands := goodIn_ca (goodIn_r _ [6, 7, 8, 9, 5, 10, 1, 31, 32, 33, 34, 35, 36, 37, 38, 39, 40, 41, 42, 43, 44, 45, 46, 47, 48, 49, 50, 51, 52, 53, 54, 55, 56, 57] (by decide +kernel) (by decide +kernel)) (goodIn_sub (fun _ h => List.mem_cons_of_mem _ (List.mem_append_right _ h)) (by decide +kernel))
set_option maxRecDepth 20000 in
theorem gX6_sumOf_X6_stands : GoodIn wsX6_sumOf (wsV RX6 107 RX6 yX6_stands wsX6_stands) := goodIn_app (goodIn_of _ (by decide +kernel)) ggX6_sumOf_X6_stands
set_option maxRecDepth 20000 in
theorem ggX6_sumOf_X6_showAt : GoodIn wsX6_sumOf wsX6_showAt := goodIn_ca (goodIn_r _ [10, 1, 31, 32, 33, 34, 35, 36, 37, 38, 39, 40, 41, 42, 43, 44, 45, 46, 47, 48, 49, 50, 51, 52, 53, 54, 55, 56, 57] (by decide +kernel) (by decide +kernel)) (goodIn_sub (fun _ h => List.mem_cons_of_mem _ (List.mem_append_right _ h)) (by decide +kernel))
set_option maxRecDepth 20000 in
theorem gX6_sumOf_X6_showAt : GoodIn wsX6_sumOf (wsV RX6 89 RX6 yX6_showAt wsX6_showAt) := goodIn_app (goodIn_of _ (by decide +kernel)) ggX6_sumOf_X6_showAt
set_option maxRecDepth 20000 in
theorem ggX6_sumOf_X6_receiptsOf : GoodIn wsX6_sumOf wsX6_receiptsOf := goodIn_ca (goodIn_r _ [14, 7, 8, 9, 5, 10, 1, 31, 32, 33, 34, 35, 36, 37, 38, 39, 40, 41, 42, 43, 44, 45, 46, 47, 48, 49, 50, 51, 52, 53, 54, 55, 56, 57] (by decide +kernel) (by decide +kernel)) (goodIn_sub (fun _ h => List.mem_cons_of_mem _ (List.mem_append_right _ h)) (by decide +kernel))
set_option maxRecDepth 20000 in
theorem gX6_sumOf_X6_receiptsOf : GoodIn wsX6_sumOf (wsV RX6 98 RX6 yX6_receiptsOf wsX6_receiptsOf) := goodIn_app (goodIn_of _ (by decide +kernel)) ggX6_sumOf_X6_receiptsOf
set_option maxRecDepth 20000 in
theorem ggX6_sumOf_X6_partOf : GoodIn wsX6_sumOf wsX6_partOf := goodIn_ca (goodIn_r _ [18, 11, 12, 13, 5, 14, 7, 8, 9, 10, 1, 19, 20, 21, 22, 23, 24, 25, 26, 31, 32, 33, 34, 35, 36, 37, 38, 39, 40, 41, 42, 43, 44, 45, 46, 47, 48, 49, 50, 51, 52, 53, 54, 55, 56, 57] (by decide +kernel) (by decide +kernel)) (goodIn_sub (fun _ h => List.mem_cons_of_mem _ (List.mem_append_right _ h)) (by decide +kernel))
set_option maxRecDepth 20000 in
theorem gX6_sumOf_X6_partOf : GoodIn wsX6_sumOf (wsV RX6 110 RX6 yX6_partOf wsX6_partOf) := goodIn_app (goodIn_of _ (by decide +kernel)) ggX6_sumOf_X6_partOf
set_option maxRecDepth 20000 in
theorem ggX6_sumOf_X6_minutesOf : GoodIn wsX6_sumOf wsX6_minutesOf := goodIn_ca (goodIn_r _ [30, 7, 8, 9, 5, 10, 1, 23, 24, 25, 26, 31, 32, 33, 34, 35, 36, 37, 38, 39, 40, 41, 42, 43, 44, 45, 46, 47, 48, 49, 50, 51, 52, 53, 54, 55, 56, 57] (by decide +kernel) (by decide +kernel)) (goodIn_sub (fun _ h => List.mem_cons_of_mem _ (List.mem_append_right _ h)) (by decide +kernel))
set_option maxRecDepth 20000 in
theorem gX6_sumOf_X6_minutesOf : GoodIn wsX6_sumOf (wsV RX6 92 RX6 yX6_minutesOf wsX6_minutesOf) := goodIn_app (goodIn_of _ (by decide +kernel)) ggX6_sumOf_X6_minutesOf
theorem dX6_sumOf_0 : decode cX6_sumOf 0 = .ok (.iconst 0, 1) := by decide +kernel
theorem dX6_sumOf_1 : decode cX6_sumOf 1 = .ok (.istore_n 2, 1) := by decide +kernel
theorem dX6_sumOf_2 : decode cX6_sumOf 2 = .ok (.iconst 0, 1) := by decide +kernel
theorem dX6_sumOf_3 : decode cX6_sumOf 3 = .ok (.istore_n 3, 1) := by decide +kernel
theorem dX6_sumOf_4 : decode cX6_sumOf 4 = .ok (.iload_n 3, 1) := by decide +kernel
theorem dX6_sumOf_5 : decode cX6_sumOf 5 = .ok (.aload_n 0, 1) := by decide +kernel
theorem dX6_sumOf_6 : decode cX6_sumOf 6 = .ok (.getfield 9, 3) := by decide +kernel
theorem dX6_sumOf_9 : decode cX6_sumOf 9 = .ok (.iconst 4, 1) := by decide +kernel
theorem dX6_sumOf_10 : decode cX6_sumOf 10 = .ok (.iaload, 1) := by decide +kernel
theorem dX6_sumOf_11 : decode cX6_sumOf 11 = .ok (.if_icmp .ge 92, 3) := by decide +kernel
theorem dX6_sumOf_14 : decode cX6_sumOf 14 = .ok (.iload_n 1, 1) := by decide +kernel
theorem dX6_sumOf_15 : decode cX6_sumOf 15 = .ok (.iconst 4, 1) := by decide +kernel
theorem dX6_sumOf_16 : decode cX6_sumOf 16 = .ok (.if_icmp .ne 22, 3) := by decide +kernel
theorem dX6_sumOf_19 : decode cX6_sumOf 19 = .ok (.iload_n 2, 1) := by decide +kernel
theorem dX6_sumOf_20 : decode cX6_sumOf 20 = .ok (.aload_n 0, 1) := by decide +kernel
theorem dX6_sumOf_21 : decode cX6_sumOf 21 = .ok (.iload_n 3, 1) := by decide +kernel
theorem dX6_sumOf_22 : decode cX6_sumOf 22 = .ok (.invokevirtual 107, 3) := by decide +kernel
theorem dX6_sumOf_25 : decode cX6_sumOf 25 = .ok (.ifCond .eq 7, 3) := by decide +kernel
theorem dX6_sumOf_28 : decode cX6_sumOf 28 = .ok (.iconst 0, 1) := by decide +kernel
theorem dX6_sumOf_29 : decode cX6_sumOf 29 = .ok (.goto 4, 3) := by decide +kernel
theorem dX6_sumOf_32 : decode cX6_sumOf 32 = .ok (.iconst 1, 1) := by decide +kernel
theorem dX6_sumOf_33 : decode cX6_sumOf 33 = .ok (.iadd, 1) := by decide +kernel
theorem dX6_sumOf_34 : decode cX6_sumOf 34 = .ok (.istore_n 2, 1) := by decide +kernel
theorem dX6_sumOf_35 : decode cX6_sumOf 35 = .ok (.goto 62, 3) := by decide +kernel
theorem dX6_sumOf_38 : decode cX6_sumOf 38 = .ok (.aload_n 0, 1) := by decide +kernel
theorem dX6_sumOf_39 : decode cX6_sumOf 39 = .ok (.iload_n 3, 1) := by decide +kernel
theorem dX6_sumOf_40 : decode cX6_sumOf 40 = .ok (.invokevirtual 107, 3) := by decide +kernel
theorem dX6_sumOf_43 : decode cX6_sumOf 43 = .ok (.ifCond .eq 54, 3) := by decide +kernel
theorem dX6_sumOf_46 : decode cX6_sumOf 46 = .ok (.iload_n 2, 1) := by decide +kernel
theorem dX6_sumOf_47 : decode cX6_sumOf 47 = .ok (.iload_n 1, 1) := by decide +kernel
theorem dX6_sumOf_48 : decode cX6_sumOf 48 = .ok (.iconst 5, 1) := by decide +kernel
theorem dX6_sumOf_49 : decode cX6_sumOf 49 = .ok (.if_icmp .ne 13, 3) := by decide +kernel
theorem dX6_sumOf_52 : decode cX6_sumOf 52 = .ok (.aload_n 0, 1) := by decide +kernel
theorem dX6_sumOf_53 : decode cX6_sumOf 53 = .ok (.iload_n 3, 1) := by decide +kernel
theorem dX6_sumOf_54 : decode cX6_sumOf 54 = .ok (.bipush 7, 2) := by decide +kernel
theorem dX6_sumOf_56 : decode cX6_sumOf 56 = .ok (.invokevirtual 89, 3) := by decide +kernel
theorem dX6_sumOf_59 : decode cX6_sumOf 59 = .ok (.goto 36, 3) := by decide +kernel
theorem dX6_sumOf_62 : decode cX6_sumOf 62 = .ok (.iload_n 1, 1) := by decide +kernel
theorem dX6_sumOf_63 : decode cX6_sumOf 63 = .ok (.bipush 6, 2) := by decide +kernel
theorem dX6_sumOf_65 : decode cX6_sumOf 65 = .ok (.if_icmp .ne 11, 3) := by decide +kernel
theorem dX6_sumOf_68 : decode cX6_sumOf 68 = .ok (.aload_n 0, 1) := by decide +kernel
theorem dX6_sumOf_69 : decode cX6_sumOf 69 = .ok (.iload_n 3, 1) := by decide +kernel
theorem dX6_sumOf_70 : decode cX6_sumOf 70 = .ok (.invokevirtual 98, 3) := by decide +kernel
theorem dX6_sumOf_73 : decode cX6_sumOf 73 = .ok (.goto 22, 3) := by decide +kernel
theorem dX6_sumOf_76 : decode cX6_sumOf 76 = .ok (.iload_n 1, 1) := by decide +kernel
theorem dX6_sumOf_77 : decode cX6_sumOf 77 = .ok (.bipush 7, 2) := by decide +kernel
theorem dX6_sumOf_79 : decode cX6_sumOf 79 = .ok (.if_icmp .ne 11, 3) := by decide +kernel
theorem dX6_sumOf_82 : decode cX6_sumOf 82 = .ok (.aload_n 0, 1) := by decide +kernel
theorem dX6_sumOf_83 : decode cX6_sumOf 83 = .ok (.iload_n 3, 1) := by decide +kernel
theorem dX6_sumOf_84 : decode cX6_sumOf 84 = .ok (.invokevirtual 110, 3) := by decide +kernel
theorem dX6_sumOf_87 : decode cX6_sumOf 87 = .ok (.goto 8, 3) := by decide +kernel
theorem dX6_sumOf_90 : decode cX6_sumOf 90 = .ok (.aload_n 0, 1) := by decide +kernel
theorem dX6_sumOf_91 : decode cX6_sumOf 91 = .ok (.iload_n 3, 1) := by decide +kernel
theorem dX6_sumOf_92 : decode cX6_sumOf 92 = .ok (.invokevirtual 92, 3) := by decide +kernel
theorem dX6_sumOf_95 : decode cX6_sumOf 95 = .ok (.iadd, 1) := by decide +kernel
theorem dX6_sumOf_96 : decode cX6_sumOf 96 = .ok (.istore_n 2, 1) := by decide +kernel
theorem dX6_sumOf_97 : decode cX6_sumOf 97 = .ok (.iinc 3 1, 3) := by decide +kernel
theorem dX6_sumOf_100 : decode cX6_sumOf 100 = .ok (.goto (-96), 3) := by decide +kernel
theorem dX6_sumOf_103 : decode cX6_sumOf 103 = .ok (.iload_n 2, 1) := by decide +kernel
theorem dX6_sumOf_104 : decode cX6_sumOf 104 = .ok (.ireturn, 1) := by decide +kernel
set_option maxRecDepth 20000 in
theorem ggX6_account_X6_in : GoodIn wsX6_account wsX6_in := goodIn_r _ [5] (by decide +kernel) (by decide +kernel)
set_option maxRecDepth 20000 in
theorem gX6_account_X6_in : GoodIn wsX6_account (va_wsS RX6 64 yX6_in wsX6_in) := goodIn_app (goodIn_of _ (by decide +kernel)) ggX6_account_X6_in
set_option maxRecDepth 20000 in
theorem ggX6_account_X6_fails : GoodIn wsX6_account wsX6_fails := goodIn_r _ [9, 10, 47, 48, 49, 50, 51, 52, 53, 54, 55, 56, 57, 58, 59, 60, 61, 62, 63, 64, 65, 66, 67, 68, 69, 70, 71, 72, 73] (by decide +kernel) (by decide +kernel)
set_option maxRecDepth 20000 in
theorem gX6_account_X6_fails : GoodIn wsX6_account (wsV RX6 45 RX6 yX6_fails wsX6_fails) := goodIn_app (goodIn_of _ (by decide +kernel)) ggX6_account_X6_fails
set_option maxRecDepth 20000 in
theorem ggX6_account_X6_done : GoodIn wsX6_account wsX6_done := goodIn_r _ [14, 10, 47, 48, 49, 50, 51, 52, 53, 54, 55, 56, 57, 58, 59, 60, 61, 62, 63, 64, 65, 66, 67, 68, 69, 70, 71, 72, 73] (by decide +kernel) (by decide +kernel)
set_option maxRecDepth 20000 in
theorem gX6_account_X6_done : GoodIn wsX6_account (wsV RX6 71 RX6 yX6_done wsX6_done) := goodIn_app (goodIn_of _ (by decide +kernel)) ggX6_account_X6_done
set_option maxRecDepth 20000 in
theorem ggX6_account_X6_sumOf : GoodIn wsX6_account wsX6_sumOf := goodIn_ca (goodIn_r _ [18, 1, 19, 20, 21, 4, 22, 23, 24, 25, 26, 27, 28, 29, 30, 31, 32, 33, 34, 35, 36, 37, 38, 39, 40, 41, 42, 43, 44, 45, 46, 47, 48, 49, 50, 51, 52, 53, 54, 55, 56, 57, 58, 59, 60, 61, 62, 63, 64, 65, 66, 67, 68, 69, 70, 71, 72, 73] (by decide +kernel) (by decide +kernel)) (goodIn_sub (fun _ h => List.mem_cons_of_mem _ (List.mem_append_right _ h)) (by decide +kernel))
set_option maxRecDepth 20000 in
theorem gX6_account_X6_sumOf : GoodIn wsX6_account (wsV RX6 233 RX6 yX6_sumOf wsX6_sumOf) := goodIn_app (goodIn_of _ (by decide +kernel)) ggX6_account_X6_sumOf
theorem dX6_account_0 : decode cX6_account 0 = .ok (.iload_n 1, 1) := by decide +kernel
theorem dX6_account_1 : decode cX6_account 1 = .ok (.iconst 0, 1) := by decide +kernel
theorem dX6_account_2 : decode cX6_account 2 = .ok (.bipush 11, 2) := by decide +kernel
theorem dX6_account_4 : decode cX6_account 4 = .ok (.invokestatic 64, 3) := by decide +kernel
theorem dX6_account_7 : decode cX6_account 7 = .ok (.ifCond .ne 9, 3) := by decide +kernel
theorem dX6_account_10 : decode cX6_account 10 = .ok (.aload_n 0, 1) := by decide +kernel
theorem dX6_account_11 : decode cX6_account 11 = .ok (.iconst 1, 1) := by decide +kernel
theorem dX6_account_12 : decode cX6_account 12 = .ok (.invokevirtual 45, 3) := by decide +kernel
theorem dX6_account_15 : decode cX6_account 15 = .ok (.ireturn, 1) := by decide +kernel
theorem dX6_account_16 : decode cX6_account 16 = .ok (.iload_n 1, 1) := by decide +kernel
theorem dX6_account_17 : decode cX6_account 17 = .ok (.iconst 4, 1) := by decide +kernel
theorem dX6_account_18 : decode cX6_account 18 = .ok (.if_icmp .ge 16, 3) := by decide +kernel
theorem dX6_account_21 : decode cX6_account 21 = .ok (.aload_n 0, 1) := by decide +kernel
theorem dX6_account_22 : decode cX6_account 22 = .ok (.aload_n 0, 1) := by decide +kernel
theorem dX6_account_23 : decode cX6_account 23 = .ok (.getfield 9, 3) := by decide +kernel
theorem dX6_account_26 : decode cX6_account 26 = .ok (.iconst 1, 1) := by decide +kernel
theorem dX6_account_27 : decode cX6_account 27 = .ok (.iload_n 1, 1) := by decide +kernel
theorem dX6_account_28 : decode cX6_account 28 = .ok (.iadd, 1) := by decide +kernel
theorem dX6_account_29 : decode cX6_account 29 = .ok (.iaload, 1) := by decide +kernel
theorem dX6_account_30 : decode cX6_account 30 = .ok (.invokevirtual 71, 3) := by decide +kernel
theorem dX6_account_33 : decode cX6_account 33 = .ok (.ireturn, 1) := by decide +kernel
theorem dX6_account_34 : decode cX6_account 34 = .ok (.aload_n 0, 1) := by decide +kernel
theorem dX6_account_35 : decode cX6_account 35 = .ok (.iload_n 1, 1) := by decide +kernel
theorem dX6_account_36 : decode cX6_account 36 = .ok (.bipush 8, 2) := by decide +kernel
theorem dX6_account_38 : decode cX6_account 38 = .ok (.if_icmp .ne 19, 3) := by decide +kernel
theorem dX6_account_41 : decode cX6_account 41 = .ok (.aload_n 0, 1) := by decide +kernel
theorem dX6_account_42 : decode cX6_account 42 = .ok (.bipush 6, 2) := by decide +kernel
theorem dX6_account_44 : decode cX6_account 44 = .ok (.invokevirtual 233, 3) := by decide +kernel
theorem dX6_account_47 : decode cX6_account 47 = .ok (.aload_n 0, 1) := by decide +kernel
theorem dX6_account_48 : decode cX6_account 48 = .ok (.bipush 7, 2) := by decide +kernel
theorem dX6_account_50 : decode cX6_account 50 = .ok (.invokevirtual 233, 3) := by decide +kernel
theorem dX6_account_53 : decode cX6_account 53 = .ok (.isub, 1) := by decide +kernel
theorem dX6_account_54 : decode cX6_account 54 = .ok (.goto 38, 3) := by decide +kernel
theorem dX6_account_57 : decode cX6_account 57 = .ok (.iload_n 1, 1) := by decide +kernel
theorem dX6_account_58 : decode cX6_account 58 = .ok (.bipush 9, 2) := by decide +kernel
theorem dX6_account_60 : decode cX6_account 60 = .ok (.if_icmp .ne 12, 3) := by decide +kernel
theorem dX6_account_63 : decode cX6_account 63 = .ok (.aload_n 0, 1) := by decide +kernel
theorem dX6_account_64 : decode cX6_account 64 = .ok (.getfield 9, 3) := by decide +kernel
theorem dX6_account_67 : decode cX6_account 67 = .ok (.iconst 5, 1) := by decide +kernel
theorem dX6_account_68 : decode cX6_account 68 = .ok (.iaload, 1) := by decide +kernel
theorem dX6_account_69 : decode cX6_account 69 = .ok (.goto 23, 3) := by decide +kernel
theorem dX6_account_72 : decode cX6_account 72 = .ok (.iload_n 1, 1) := by decide +kernel
theorem dX6_account_73 : decode cX6_account 73 = .ok (.bipush 11, 2) := by decide +kernel
theorem dX6_account_75 : decode cX6_account 75 = .ok (.if_icmp .ne 12, 3) := by decide +kernel
theorem dX6_account_78 : decode cX6_account 78 = .ok (.aload_n 0, 1) := by decide +kernel
theorem dX6_account_79 : decode cX6_account 79 = .ok (.getfield 9, 3) := by decide +kernel
theorem dX6_account_82 : decode cX6_account 82 = .ok (.iconst 0, 1) := by decide +kernel
theorem dX6_account_83 : decode cX6_account 83 = .ok (.iaload, 1) := by decide +kernel
theorem dX6_account_84 : decode cX6_account 84 = .ok (.goto 8, 3) := by decide +kernel
theorem dX6_account_87 : decode cX6_account 87 = .ok (.aload_n 0, 1) := by decide +kernel
theorem dX6_account_88 : decode cX6_account 88 = .ok (.iload_n 1, 1) := by decide +kernel
theorem dX6_account_89 : decode cX6_account 89 = .ok (.invokevirtual 233, 3) := by decide +kernel
theorem dX6_account_92 : decode cX6_account 92 = .ok (.invokevirtual 71, 3) := by decide +kernel
theorem dX6_account_95 : decode cX6_account 95 = .ok (.ireturn, 1) := by decide +kernel
set_option maxRecDepth 20000 in
theorem ggX6_bestFilm_X6_film : GoodIn wsX6_bestFilm wsX6_film := goodIn_ca (goodIn_r _ [6, 1, 7, 8, 9, 5, 10, 11, 12, 13, 14, 15, 16, 17, 18, 19, 20, 21, 22, 23, 24, 25, 26, 27, 28, 29, 30, 31, 32, 33, 34, 35, 36, 37, 38, 39, 40, 41, 42, 43, 44, 45, 46, 47, 48, 49, 50, 51, 52, 53, 54, 55, 56, 57, 58, 59, 60, 61, 62, 63, 64, 65, 66, 67, 68, 69, 70, 71, 72, 73] (by decide +kernel) (by decide +kernel)) (goodIn_sub (fun _ h => List.mem_cons_of_mem _ (List.mem_append_right _ h)) (by decide +kernel))
set_option maxRecDepth 20000 in
theorem gX6_bestFilm_X6_film : GoodIn wsX6_bestFilm (wsV RX6 236 RX6 yX6_film wsX6_film) := goodIn_app (goodIn_of _ (by decide +kernel)) ggX6_bestFilm_X6_film
set_option maxRecDepth 20000 in
theorem ggX6_bestFilm_X6_fails : GoodIn wsX6_bestFilm wsX6_fails := goodIn_r _ [17, 18, 47, 48, 49, 50, 51, 52, 53, 54, 55, 56, 57, 58, 59, 60, 61, 62, 63, 64, 65, 66, 67, 68, 69, 70, 71, 72, 73] (by decide +kernel) (by decide +kernel)
set_option maxRecDepth 20000 in
theorem gX6_bestFilm_X6_fails : GoodIn wsX6_bestFilm (wsV RX6 45 RX6 yX6_fails wsX6_fails) := goodIn_app (goodIn_of _ (by decide +kernel)) ggX6_bestFilm_X6_fails
set_option maxRecDepth 20000 in
theorem ggX6_bestFilm_X6_done : GoodIn wsX6_bestFilm wsX6_done := goodIn_r _ [26, 18, 47, 48, 49, 50, 51, 52, 53, 54, 55, 56, 57, 58, 59, 60, 61, 62, 63, 64, 65, 66, 67, 68, 69, 70, 71, 72, 73] (by decide +kernel) (by decide +kernel)
set_option maxRecDepth 20000 in
theorem gX6_bestFilm_X6_done : GoodIn wsX6_bestFilm (wsV RX6 71 RX6 yX6_done wsX6_done) := goodIn_app (goodIn_of _ (by decide +kernel)) ggX6_bestFilm_X6_done
theorem dX6_bestFilm_0 : decode cX6_bestFilm 0 = .ok (.iconst (-1), 1) := by decide +kernel
theorem dX6_bestFilm_1 : decode cX6_bestFilm 1 = .ok (.istore_n 1, 1) := by decide +kernel
theorem dX6_bestFilm_2 : decode cX6_bestFilm 2 = .ok (.iconst 0, 1) := by decide +kernel
theorem dX6_bestFilm_3 : decode cX6_bestFilm 3 = .ok (.istore_n 2, 1) := by decide +kernel
theorem dX6_bestFilm_4 : decode cX6_bestFilm 4 = .ok (.iconst 0, 1) := by decide +kernel
theorem dX6_bestFilm_5 : decode cX6_bestFilm 5 = .ok (.istore_n 3, 1) := by decide +kernel
theorem dX6_bestFilm_6 : decode cX6_bestFilm 6 = .ok (.iload_n 3, 1) := by decide +kernel
theorem dX6_bestFilm_7 : decode cX6_bestFilm 7 = .ok (.aload_n 0, 1) := by decide +kernel
theorem dX6_bestFilm_8 : decode cX6_bestFilm 8 = .ok (.getfield 9, 3) := by decide +kernel
theorem dX6_bestFilm_11 : decode cX6_bestFilm 11 = .ok (.iconst 2, 1) := by decide +kernel
theorem dX6_bestFilm_12 : decode cX6_bestFilm 12 = .ok (.iaload, 1) := by decide +kernel
theorem dX6_bestFilm_13 : decode cX6_bestFilm 13 = .ok (.if_icmp .ge 34, 3) := by decide +kernel
theorem dX6_bestFilm_16 : decode cX6_bestFilm 16 = .ok (.aload_n 0, 1) := by decide +kernel
theorem dX6_bestFilm_17 : decode cX6_bestFilm 17 = .ok (.iload_n 3, 1) := by decide +kernel
theorem dX6_bestFilm_18 : decode cX6_bestFilm 18 = .ok (.bipush 6, 2) := by decide +kernel
theorem dX6_bestFilm_20 : decode cX6_bestFilm 20 = .ok (.invokevirtual 236, 3) := by decide +kernel
theorem dX6_bestFilm_23 : decode cX6_bestFilm 23 = .ok (.istore 4, 2) := by decide +kernel
theorem dX6_bestFilm_25 : decode cX6_bestFilm 25 = .ok (.iload_n 1, 1) := by decide +kernel
theorem dX6_bestFilm_26 : decode cX6_bestFilm 26 = .ok (.iconst (-1), 1) := by decide +kernel
theorem dX6_bestFilm_27 : decode cX6_bestFilm 27 = .ok (.if_icmp .eq 9, 3) := by decide +kernel
theorem dX6_bestFilm_30 : decode cX6_bestFilm 30 = .ok (.iload 4, 2) := by decide +kernel
theorem dX6_bestFilm_32 : decode cX6_bestFilm 32 = .ok (.iload_n 2, 1) := by decide +kernel
theorem dX6_bestFilm_33 : decode cX6_bestFilm 33 = .ok (.if_icmp .le 8, 3) := by decide +kernel
theorem dX6_bestFilm_36 : decode cX6_bestFilm 36 = .ok (.iload_n 3, 1) := by decide +kernel
theorem dX6_bestFilm_37 : decode cX6_bestFilm 37 = .ok (.istore_n 1, 1) := by decide +kernel
theorem dX6_bestFilm_38 : decode cX6_bestFilm 38 = .ok (.iload 4, 2) := by decide +kernel
theorem dX6_bestFilm_40 : decode cX6_bestFilm 40 = .ok (.istore_n 2, 1) := by decide +kernel
theorem dX6_bestFilm_41 : decode cX6_bestFilm 41 = .ok (.iinc 3 1, 3) := by decide +kernel
theorem dX6_bestFilm_44 : decode cX6_bestFilm 44 = .ok (.goto (-38), 3) := by decide +kernel
theorem dX6_bestFilm_47 : decode cX6_bestFilm 47 = .ok (.iload_n 1, 1) := by decide +kernel
theorem dX6_bestFilm_48 : decode cX6_bestFilm 48 = .ok (.iconst (-1), 1) := by decide +kernel
theorem dX6_bestFilm_49 : decode cX6_bestFilm 49 = .ok (.if_icmp .ne 11, 3) := by decide +kernel
theorem dX6_bestFilm_52 : decode cX6_bestFilm 52 = .ok (.aload_n 0, 1) := by decide +kernel
theorem dX6_bestFilm_53 : decode cX6_bestFilm 53 = .ok (.iconst 1, 1) := by decide +kernel
theorem dX6_bestFilm_54 : decode cX6_bestFilm 54 = .ok (.invokevirtual 45, 3) := by decide +kernel
theorem dX6_bestFilm_57 : decode cX6_bestFilm 57 = .ok (.goto 8, 3) := by decide +kernel
theorem dX6_bestFilm_60 : decode cX6_bestFilm 60 = .ok (.aload_n 0, 1) := by decide +kernel
theorem dX6_bestFilm_61 : decode cX6_bestFilm 61 = .ok (.iload_n 1, 1) := by decide +kernel
theorem dX6_bestFilm_62 : decode cX6_bestFilm 62 = .ok (.invokevirtual 71, 3) := by decide +kernel
theorem dX6_bestFilm_65 : decode cX6_bestFilm 65 = .ok (.ireturn, 1) := by decide +kernel
set_option maxRecDepth 20000 in
theorem ggX6_use_X6_stands : GoodIn wsX6_use wsX6_stands := goodIn_ca (goodIn_r _ [7, 8, 9, 10, 6, 11, 1, 40, 41, 42, 43, 44, 45, 46, 47, 48, 49, 50, 51, 52, 53, 54, 55, 56, 57, 58, 59, 60, 61, 62, 63, 64, 65, 66] (by decide +kernel) (by decide +kernel)) (goodIn_sub (fun _ h => List.mem_cons_of_mem _ (List.mem_append_right _ h)) (by decide +kernel))
set_option maxRecDepth 20000 in
theorem gX6_use_X6_stands : GoodIn wsX6_use (wsV RX6 107 RX6 yX6_stands wsX6_stands) := goodIn_app (goodIn_of _ (by decide +kernel)) ggX6_use_X6_stands
set_option maxRecDepth 20000 in
theorem ggX6_use_X6_showAt : GoodIn wsX6_use wsX6_showAt := goodIn_ca (goodIn_r _ [11, 1, 40, 41, 42, 43, 44, 45, 46, 47, 48, 49, 50, 51, 52, 53, 54, 55, 56, 57, 58, 59, 60, 61, 62, 63, 64, 65, 66] (by decide +kernel) (by decide +kernel)) (goodIn_sub (fun _ h => List.mem_cons_of_mem _ (List.mem_append_right _ h)) (by decide +kernel))
set_option maxRecDepth 20000 in
theorem gX6_use_X6_showAt : GoodIn wsX6_use (wsV RX6 89 RX6 yX6_showAt wsX6_showAt) := goodIn_app (goodIn_of _ (by decide +kernel)) ggX6_use_X6_showAt
set_option maxRecDepth 20000 in
theorem ggX6_use_X6_hallAt : GoodIn wsX6_use wsX6_hallAt := goodIn_ca (goodIn_r _ [15, 1, 40, 41, 42, 43, 44, 45, 46, 47, 48, 49, 50, 51, 52, 53, 54, 55, 56, 57, 58, 59, 60, 61, 62, 63, 64, 65, 66] (by decide +kernel) (by decide +kernel)) (goodIn_sub (fun _ h => List.mem_cons_of_mem _ (List.mem_append_right _ h)) (by decide +kernel))
set_option maxRecDepth 20000 in
theorem gX6_use_X6_hallAt : GoodIn wsX6_use (wsV RX6 95 RX6 yX6_hallAt wsX6_hallAt) := goodIn_app (goodIn_of _ (by decide +kernel)) ggX6_use_X6_hallAt
set_option maxRecDepth 20000 in
theorem ggX6_use_X6_sumOf : GoodIn wsX6_use wsX6_sumOf := goodIn_ca (goodIn_r _ [19, 1, 3, 4, 5, 6, 7, 8, 9, 10, 11, 20, 21, 22, 23, 24, 25, 26, 27, 28, 29, 30, 31, 32, 33, 34, 35, 36, 37, 38, 39, 40, 41, 42, 43, 44, 45, 46, 47, 48, 49, 50, 51, 52, 53, 54, 55, 56, 57, 58, 59, 60, 61, 62, 63, 64, 65, 66] (by decide +kernel) (by decide +kernel)) (goodIn_sub (fun _ h => List.mem_cons_of_mem _ (List.mem_append_right _ h)) (by decide +kernel))
set_option maxRecDepth 20000 in
theorem gX6_use_X6_sumOf : GoodIn wsX6_use (wsV RX6 233 RX6 yX6_sumOf wsX6_sumOf) := goodIn_app (goodIn_of _ (by decide +kernel)) ggX6_use_X6_sumOf
theorem dX6_use_0 : decode cX6_use 0 = .ok (.iconst 0, 1) := by decide +kernel
theorem dX6_use_1 : decode cX6_use 1 = .ok (.istore_n 1, 1) := by decide +kernel
theorem dX6_use_2 : decode cX6_use 2 = .ok (.iconst 0, 1) := by decide +kernel
theorem dX6_use_3 : decode cX6_use 3 = .ok (.istore_n 2, 1) := by decide +kernel
theorem dX6_use_4 : decode cX6_use 4 = .ok (.iload_n 2, 1) := by decide +kernel
theorem dX6_use_5 : decode cX6_use 5 = .ok (.aload_n 0, 1) := by decide +kernel
theorem dX6_use_6 : decode cX6_use 6 = .ok (.getfield 9, 3) := by decide +kernel
theorem dX6_use_9 : decode cX6_use 9 = .ok (.iconst 4, 1) := by decide +kernel
theorem dX6_use_10 : decode cX6_use 10 = .ok (.iaload, 1) := by decide +kernel
theorem dX6_use_11 : decode cX6_use 11 = .ok (.if_icmp .ge 35, 3) := by decide +kernel
theorem dX6_use_14 : decode cX6_use 14 = .ok (.iload_n 1, 1) := by decide +kernel
theorem dX6_use_15 : decode cX6_use 15 = .ok (.aload_n 0, 1) := by decide +kernel
theorem dX6_use_16 : decode cX6_use 16 = .ok (.iload_n 2, 1) := by decide +kernel
theorem dX6_use_17 : decode cX6_use 17 = .ok (.invokevirtual 107, 3) := by decide +kernel
theorem dX6_use_20 : decode cX6_use 20 = .ok (.ifCond .eq 17, 3) := by decide +kernel
theorem dX6_use_23 : decode cX6_use 23 = .ok (.aload_n 0, 1) := by decide +kernel
theorem dX6_use_24 : decode cX6_use 24 = .ok (.aload_n 0, 1) := by decide +kernel
theorem dX6_use_25 : decode cX6_use 25 = .ok (.iload_n 2, 1) := by decide +kernel
theorem dX6_use_26 : decode cX6_use 26 = .ok (.iconst 0, 1) := by decide +kernel
theorem dX6_use_27 : decode cX6_use 27 = .ok (.invokevirtual 89, 3) := by decide +kernel
theorem dX6_use_30 : decode cX6_use 30 = .ok (.iconst 0, 1) := by decide +kernel
theorem dX6_use_31 : decode cX6_use 31 = .ok (.invokevirtual 95, 3) := by decide +kernel
theorem dX6_use_34 : decode cX6_use 34 = .ok (.goto 4, 3) := by decide +kernel
theorem dX6_use_37 : decode cX6_use 37 = .ok (.iconst 0, 1) := by decide +kernel
theorem dX6_use_38 : decode cX6_use 38 = .ok (.iadd, 1) := by decide +kernel
theorem dX6_use_39 : decode cX6_use 39 = .ok (.istore_n 1, 1) := by decide +kernel
theorem dX6_use_40 : decode cX6_use 40 = .ok (.iinc 2 1, 3) := by decide +kernel
theorem dX6_use_43 : decode cX6_use 43 = .ok (.goto (-39), 3) := by decide +kernel
theorem dX6_use_46 : decode cX6_use 46 = .ok (.iload_n 1, 1) := by decide +kernel
theorem dX6_use_47 : decode cX6_use 47 = .ok (.ifCond .ne 10, 3) := by decide +kernel
theorem dX6_use_50 : decode cX6_use 50 = .ok (.aload_n 0, 1) := by decide +kernel
theorem dX6_use_51 : decode cX6_use 51 = .ok (.iconst 1, 1) := by decide +kernel
theorem dX6_use_52 : decode cX6_use 52 = .ok (.putfield 36, 3) := by decide +kernel
theorem dX6_use_55 : decode cX6_use 55 = .ok (.dconst 0, 1) := by decide +kernel
theorem dX6_use_56 : decode cX6_use 56 = .ok (.dreturn, 1) := by decide +kernel
theorem dX6_use_57 : decode cX6_use 57 = .ok (.aload_n 0, 1) := by decide +kernel
theorem dX6_use_58 : decode cX6_use 58 = .ok (.iconst 0, 1) := by decide +kernel
theorem dX6_use_59 : decode cX6_use 59 = .ok (.putfield 36, 3) := by decide +kernel
theorem dX6_use_62 : decode cX6_use 62 = .ok (.aload_n 0, 1) := by decide +kernel
theorem dX6_use_63 : decode cX6_use 63 = .ok (.iconst 5, 1) := by decide +kernel
theorem dX6_use_64 : decode cX6_use 64 = .ok (.invokevirtual 233, 3) := by decide +kernel
theorem dX6_use_67 : decode cX6_use 67 = .ok (.i2d, 1) := by decide +kernel
theorem dX6_use_68 : decode cX6_use 68 = .ok (.iload_n 1, 1) := by decide +kernel
theorem dX6_use_69 : decode cX6_use 69 = .ok (.i2d, 1) := by decide +kernel
theorem dX6_use_70 : decode cX6_use 70 = .ok (.ddiv, 1) := by decide +kernel
theorem dX6_use_71 : decode cX6_use 71 = .ok (.dreturn, 1) := by decide +kernel
theorem dX6_writesLetter_0 : decode cX6_writesLetter 0 = .ok (.aload_n 0, 1) := by decide +kernel
theorem dX6_writesLetter_1 : decode cX6_writesLetter 1 = .ok (.getfield 30, 3) := by decide +kernel
theorem dX6_writesLetter_4 : decode cX6_writesLetter 4 = .ok (.aload_n 0, 1) := by decide +kernel
theorem dX6_writesLetter_5 : decode cX6_writesLetter 5 = .ok (.getfield 239, 3) := by decide +kernel
theorem dX6_writesLetter_8 : decode cX6_writesLetter 8 = .ok (.iload_n 1, 1) := by decide +kernel
theorem dX6_writesLetter_9 : decode cX6_writesLetter 9 = .ok (.castore, 1) := by decide +kernel
theorem dX6_writesLetter_10 : decode cX6_writesLetter 10 = .ok (.aload_n 0, 1) := by decide +kernel
theorem dX6_writesLetter_11 : decode cX6_writesLetter 11 = .ok (.dup, 1) := by decide +kernel
theorem dX6_writesLetter_12 : decode cX6_writesLetter 12 = .ok (.getfield 239, 3) := by decide +kernel
theorem dX6_writesLetter_15 : decode cX6_writesLetter 15 = .ok (.iconst 1, 1) := by decide +kernel
theorem dX6_writesLetter_16 : decode cX6_writesLetter 16 = .ok (.iadd, 1) := by decide +kernel
theorem dX6_writesLetter_17 : decode cX6_writesLetter 17 = .ok (.putfield 239, 3) := by decide +kernel
theorem dX6_writesLetter_20 : decode cX6_writesLetter 20 = .ok (.return_, 1) := by decide +kernel
set_option maxRecDepth 20000 in
theorem ggX6_writesWord_J0_length_8abf5 : GoodIn wsX6_writesWord wsJ0_length_8abf5 := goodIn_r _ [5, 6, 7, 8, 9, 4, 10, 11, 12, 57, 58, 59, 60] (by decide +kernel) (by decide +kernel)
set_option maxRecDepth 20000 in
theorem gX6_writesWord_J0_length_8abf5 : GoodIn wsX6_writesWord (wsV RX6 242 RJ0 yJ0_length_8abf5 wsJ0_length_8abf5) := goodIn_app (goodIn_of _ (by decide +kernel)) ggX6_writesWord_J0_length_8abf5
set_option maxRecDepth 20000 in
theorem ggX6_writesWord_J0_charAt_5068e : GoodIn wsX6_writesWord wsJ0_charAt_5068e := goodIn_r _ [16, 6, 17, 18, 19, 4, 20, 11, 12, 21, 22, 23, 24, 25, 26, 27, 28, 29, 30, 31, 32, 33, 34, 35, 36, 37, 38, 39, 40, 41, 42, 43, 44, 45, 46, 47, 48, 49, 57, 58, 59, 60] (by decide +kernel) (by decide +kernel)
set_option maxRecDepth 20000 in
theorem gX6_writesWord_J0_charAt_5068e : GoodIn wsX6_writesWord (wsV RX6 247 RJ0 yJ0_charAt_5068e wsJ0_charAt_5068e) := goodIn_app (goodIn_of _ (by decide +kernel)) ggX6_writesWord_J0_charAt_5068e
set_option maxRecDepth 20000 in
theorem ggX6_writesWord_X6_writesLetter : GoodIn wsX6_writesWord wsX6_writesLetter := goodIn_ca (goodIn_r _ [54, 55, 56, 61, 62, 63, 64, 65, 66, 67, 68, 69, 70, 71, 72, 73, 74, 75, 76, 77, 78, 79, 80, 81, 82, 83, 84, 85, 86, 87] (by decide +kernel) (by decide +kernel)) (goodIn_sub (fun _ h => List.mem_cons_of_mem _ (List.mem_append_right _ h)) (by decide +kernel))
set_option maxRecDepth 20000 in
theorem gX6_writesWord_X6_writesLetter : GoodIn wsX6_writesWord (wsV RX6 251 RX6 yX6_writesLetter wsX6_writesLetter) := goodIn_app (goodIn_of _ (by decide +kernel)) ggX6_writesWord_X6_writesLetter
theorem dX6_writesWord_0 : decode cX6_writesWord 0 = .ok (.iconst 0, 1) := by decide +kernel
theorem dX6_writesWord_1 : decode cX6_writesWord 1 = .ok (.istore_n 2, 1) := by decide +kernel
theorem dX6_writesWord_2 : decode cX6_writesWord 2 = .ok (.iload_n 2, 1) := by decide +kernel
theorem dX6_writesWord_3 : decode cX6_writesWord 3 = .ok (.aload_n 1, 1) := by decide +kernel
theorem dX6_writesWord_4 : decode cX6_writesWord 4 = .ok (.invokevirtual 242, 3) := by decide +kernel
theorem dX6_writesWord_7 : decode cX6_writesWord 7 = .ok (.if_icmp .ge 18, 3) := by decide +kernel
theorem dX6_writesWord_10 : decode cX6_writesWord 10 = .ok (.aload_n 0, 1) := by decide +kernel
theorem dX6_writesWord_11 : decode cX6_writesWord 11 = .ok (.aload_n 1, 1) := by decide +kernel
theorem dX6_writesWord_12 : decode cX6_writesWord 12 = .ok (.iload_n 2, 1) := by decide +kernel
theorem dX6_writesWord_13 : decode cX6_writesWord 13 = .ok (.invokevirtual 247, 3) := by decide +kernel
theorem dX6_writesWord_16 : decode cX6_writesWord 16 = .ok (.invokevirtual 251, 3) := by decide +kernel
theorem dX6_writesWord_19 : decode cX6_writesWord 19 = .ok (.iinc 2 1, 3) := by decide +kernel
theorem dX6_writesWord_22 : decode cX6_writesWord 22 = .ok (.goto (-20), 3) := by decide +kernel
theorem dX6_writesWord_25 : decode cX6_writesWord 25 = .ok (.return_, 1) := by decide +kernel
set_option maxRecDepth 20000 in
theorem ggX6_writesNumber_X6_writesLetter : GoodIn wsX6_writesNumber wsX6_writesLetter := goodIn_ca (goodIn_r _ [5, 6, 7, 8, 9, 10, 11, 12, 13, 14, 15, 16, 17, 18, 19, 20, 21, 22, 23, 24, 25, 26, 27, 28, 29, 30, 31, 32, 33, 34] (by decide +kernel) (by decide +kernel)) (goodIn_sub (fun _ h => List.mem_cons_of_mem _ (List.mem_append_right _ h)) (by decide +kernel))
set_option maxRecDepth 20000 in
theorem gX6_writesNumber_X6_writesLetter : GoodIn wsX6_writesNumber (wsV RX6 251 RX6 yX6_writesLetter wsX6_writesLetter) := goodIn_app (goodIn_of _ (by decide +kernel)) ggX6_writesNumber_X6_writesLetter
theorem dX6_writesNumber_0 : decode cX6_writesNumber 0 = .ok (.iconst 1, 1) := by decide +kernel
theorem dX6_writesNumber_1 : decode cX6_writesNumber 1 = .ok (.istore_n 2, 1) := by decide +kernel
theorem dX6_writesNumber_2 : decode cX6_writesNumber 2 = .ok (.iload_n 2, 1) := by decide +kernel
theorem dX6_writesNumber_3 : decode cX6_writesNumber 3 = .ok (.bipush 10, 2) := by decide +kernel
theorem dX6_writesNumber_5 : decode cX6_writesNumber 5 = .ok (.imul, 1) := by decide +kernel
theorem dX6_writesNumber_6 : decode cX6_writesNumber 6 = .ok (.iload_n 1, 1) := by decide +kernel
theorem dX6_writesNumber_7 : decode cX6_writesNumber 7 = .ok (.if_icmp .gt 11, 3) := by decide +kernel
theorem dX6_writesNumber_10 : decode cX6_writesNumber 10 = .ok (.iload_n 2, 1) := by decide +kernel
theorem dX6_writesNumber_11 : decode cX6_writesNumber 11 = .ok (.bipush 10, 2) := by decide +kernel
theorem dX6_writesNumber_13 : decode cX6_writesNumber 13 = .ok (.imul, 1) := by decide +kernel
theorem dX6_writesNumber_14 : decode cX6_writesNumber 14 = .ok (.istore_n 2, 1) := by decide +kernel
theorem dX6_writesNumber_15 : decode cX6_writesNumber 15 = .ok (.goto (-13), 3) := by decide +kernel
theorem dX6_writesNumber_18 : decode cX6_writesNumber 18 = .ok (.iload_n 2, 1) := by decide +kernel
theorem dX6_writesNumber_19 : decode cX6_writesNumber 19 = .ok (.istore_n 3, 1) := by decide +kernel
theorem dX6_writesNumber_20 : decode cX6_writesNumber 20 = .ok (.iload_n 3, 1) := by decide +kernel
theorem dX6_writesNumber_21 : decode cX6_writesNumber 21 = .ok (.ifCond .le 25, 3) := by decide +kernel
theorem dX6_writesNumber_24 : decode cX6_writesNumber 24 = .ok (.aload_n 0, 1) := by decide +kernel
theorem dX6_writesNumber_25 : decode cX6_writesNumber 25 = .ok (.bipush 48, 2) := by decide +kernel
theorem dX6_writesNumber_27 : decode cX6_writesNumber 27 = .ok (.iload_n 1, 1) := by decide +kernel
theorem dX6_writesNumber_28 : decode cX6_writesNumber 28 = .ok (.iload_n 3, 1) := by decide +kernel
theorem dX6_writesNumber_29 : decode cX6_writesNumber 29 = .ok (.idiv, 1) := by decide +kernel
theorem dX6_writesNumber_30 : decode cX6_writesNumber 30 = .ok (.bipush 10, 2) := by decide +kernel
theorem dX6_writesNumber_32 : decode cX6_writesNumber 32 = .ok (.irem, 1) := by decide +kernel
theorem dX6_writesNumber_33 : decode cX6_writesNumber 33 = .ok (.iadd, 1) := by decide +kernel
theorem dX6_writesNumber_34 : decode cX6_writesNumber 34 = .ok (.i2c, 1) := by decide +kernel
theorem dX6_writesNumber_35 : decode cX6_writesNumber 35 = .ok (.invokevirtual 251, 3) := by decide +kernel
theorem dX6_writesNumber_38 : decode cX6_writesNumber 38 = .ok (.iload_n 3, 1) := by decide +kernel
theorem dX6_writesNumber_39 : decode cX6_writesNumber 39 = .ok (.bipush 10, 2) := by decide +kernel
theorem dX6_writesNumber_41 : decode cX6_writesNumber 41 = .ok (.idiv, 1) := by decide +kernel
theorem dX6_writesNumber_42 : decode cX6_writesNumber 42 = .ok (.istore_n 3, 1) := by decide +kernel
theorem dX6_writesNumber_43 : decode cX6_writesNumber 43 = .ok (.goto (-23), 3) := by decide +kernel
theorem dX6_writesNumber_46 : decode cX6_writesNumber 46 = .ok (.return_, 1) := by decide +kernel
set_option maxRecDepth 20000 in
theorem ggX6_nextShow_X6_stands : GoodIn wsX6_nextShow wsX6_stands := goodIn_ca (goodIn_r _ [6, 7, 8, 9, 5, 10, 1, 11, 12, 13, 14, 15, 16, 17, 18, 19, 20, 21, 22, 23, 24, 25, 26, 27, 28, 29, 30, 31, 32, 33, 34, 35, 36, 37] (by decide +kernel) (by decide +kernel)) (goodIn_sub (fun _ h => List.mem_cons_of_mem _ (List.mem_append_right _ h)) (by decide +kernel))
set_option maxRecDepth 20000 in
theorem gX6_nextShow_X6_stands : GoodIn wsX6_nextShow (wsV RX6 107 RX6 yX6_stands wsX6_stands) := goodIn_app (goodIn_of _ (by decide +kernel)) ggX6_nextShow_X6_stands
set_option maxRecDepth 20000 in
theorem ggX6_nextShow_X6_showAt : GoodIn wsX6_nextShow wsX6_showAt := goodIn_ca (goodIn_r _ [10, 1, 11, 12, 13, 14, 15, 16, 17, 18, 19, 20, 21, 22, 23, 24, 25, 26, 27, 28, 29, 30, 31, 32, 33, 34, 35, 36, 37] (by decide +kernel) (by decide +kernel)) (goodIn_sub (fun _ h => List.mem_cons_of_mem _ (List.mem_append_right _ h)) (by decide +kernel))
set_option maxRecDepth 20000 in
theorem gX6_nextShow_X6_showAt : GoodIn wsX6_nextShow (wsV RX6 89 RX6 yX6_showAt wsX6_showAt) := goodIn_app (goodIn_of _ (by decide +kernel)) ggX6_nextShow_X6_showAt
theorem dX6_nextShow_0 : decode cX6_nextShow 0 = .ok (.iconst (-1), 1) := by decide +kernel
theorem dX6_nextShow_1 : decode cX6_nextShow 1 = .ok (.istore 4, 2) := by decide +kernel
theorem dX6_nextShow_3 : decode cX6_nextShow 3 = .ok (.iconst 0, 1) := by decide +kernel
theorem dX6_nextShow_4 : decode cX6_nextShow 4 = .ok (.istore 5, 2) := by decide +kernel
theorem dX6_nextShow_6 : decode cX6_nextShow 6 = .ok (.iload 5, 2) := by decide +kernel
theorem dX6_nextShow_8 : decode cX6_nextShow 8 = .ok (.aload_n 0, 1) := by decide +kernel
theorem dX6_nextShow_9 : decode cX6_nextShow 9 = .ok (.getfield 9, 3) := by decide +kernel
theorem dX6_nextShow_12 : decode cX6_nextShow 12 = .ok (.iconst 4, 1) := by decide +kernel
theorem dX6_nextShow_13 : decode cX6_nextShow 13 = .ok (.iaload, 1) := by decide +kernel
theorem dX6_nextShow_14 : decode cX6_nextShow 14 = .ok (.if_icmp .ge 95, 3) := by decide +kernel
theorem dX6_nextShow_17 : decode cX6_nextShow 17 = .ok (.aload_n 0, 1) := by decide +kernel
theorem dX6_nextShow_18 : decode cX6_nextShow 18 = .ok (.iload 5, 2) := by decide +kernel
theorem dX6_nextShow_20 : decode cX6_nextShow 20 = .ok (.invokevirtual 107, 3) := by decide +kernel
theorem dX6_nextShow_23 : decode cX6_nextShow 23 = .ok (.ifCond .eq 40, 3) := by decide +kernel
theorem dX6_nextShow_26 : decode cX6_nextShow 26 = .ok (.aload_n 0, 1) := by decide +kernel
theorem dX6_nextShow_27 : decode cX6_nextShow 27 = .ok (.iload 5, 2) := by decide +kernel
theorem dX6_nextShow_29 : decode cX6_nextShow 29 = .ok (.iconst 0, 1) := by decide +kernel
theorem dX6_nextShow_30 : decode cX6_nextShow 30 = .ok (.invokevirtual 89, 3) := by decide +kernel
theorem dX6_nextShow_33 : decode cX6_nextShow 33 = .ok (.iload_n 1, 1) := by decide +kernel
theorem dX6_nextShow_34 : decode cX6_nextShow 34 = .ok (.if_icmp .ne 29, 3) := by decide +kernel
theorem dX6_nextShow_37 : decode cX6_nextShow 37 = .ok (.aload_n 0, 1) := by decide +kernel
theorem dX6_nextShow_38 : decode cX6_nextShow 38 = .ok (.iload 5, 2) := by decide +kernel
theorem dX6_nextShow_40 : decode cX6_nextShow 40 = .ok (.iconst 2, 1) := by decide +kernel
theorem dX6_nextShow_41 : decode cX6_nextShow 41 = .ok (.invokevirtual 89, 3) := by decide +kernel
theorem dX6_nextShow_44 : decode cX6_nextShow 44 = .ok (.iload_n 2, 1) := by decide +kernel
theorem dX6_nextShow_45 : decode cX6_nextShow 45 = .ok (.if_icmp .ne 18, 3) := by decide +kernel
theorem dX6_nextShow_48 : decode cX6_nextShow 48 = .ok (.aload_n 0, 1) := by decide +kernel
theorem dX6_nextShow_49 : decode cX6_nextShow 49 = .ok (.iload 5, 2) := by decide +kernel
theorem dX6_nextShow_51 : decode cX6_nextShow 51 = .ok (.iconst 3, 1) := by decide +kernel
theorem dX6_nextShow_52 : decode cX6_nextShow 52 = .ok (.invokevirtual 89, 3) := by decide +kernel
theorem dX6_nextShow_55 : decode cX6_nextShow 55 = .ok (.iload_n 3, 1) := by decide +kernel
theorem dX6_nextShow_56 : decode cX6_nextShow 56 = .ok (.if_icmp .le 7, 3) := by decide +kernel
theorem dX6_nextShow_59 : decode cX6_nextShow 59 = .ok (.iconst 1, 1) := by decide +kernel
theorem dX6_nextShow_60 : decode cX6_nextShow 60 = .ok (.goto 4, 3) := by decide +kernel
theorem dX6_nextShow_63 : decode cX6_nextShow 63 = .ok (.iconst 0, 1) := by decide +kernel
theorem dX6_nextShow_64 : decode cX6_nextShow 64 = .ok (.istore 6, 2) := by decide +kernel
theorem dX6_nextShow_66 : decode cX6_nextShow 66 = .ok (.iload 6, 2) := by decide +kernel
theorem dX6_nextShow_68 : decode cX6_nextShow 68 = .ok (.ifCond .eq 31, 3) := by decide +kernel
theorem dX6_nextShow_71 : decode cX6_nextShow 71 = .ok (.iload 4, 2) := by decide +kernel
theorem dX6_nextShow_73 : decode cX6_nextShow 73 = .ok (.iconst (-1), 1) := by decide +kernel
theorem dX6_nextShow_74 : decode cX6_nextShow 74 = .ok (.if_icmp .eq 20, 3) := by decide +kernel
theorem dX6_nextShow_77 : decode cX6_nextShow 77 = .ok (.aload_n 0, 1) := by decide +kernel
theorem dX6_nextShow_78 : decode cX6_nextShow 78 = .ok (.iload 5, 2) := by decide +kernel
theorem dX6_nextShow_80 : decode cX6_nextShow 80 = .ok (.iconst 3, 1) := by decide +kernel
theorem dX6_nextShow_81 : decode cX6_nextShow 81 = .ok (.invokevirtual 89, 3) := by decide +kernel
theorem dX6_nextShow_84 : decode cX6_nextShow 84 = .ok (.aload_n 0, 1) := by decide +kernel
theorem dX6_nextShow_85 : decode cX6_nextShow 85 = .ok (.iload 4, 2) := by decide +kernel
theorem dX6_nextShow_87 : decode cX6_nextShow 87 = .ok (.iconst 3, 1) := by decide +kernel
theorem dX6_nextShow_88 : decode cX6_nextShow 88 = .ok (.invokevirtual 89, 3) := by decide +kernel
theorem dX6_nextShow_91 : decode cX6_nextShow 91 = .ok (.if_icmp .ge 8, 3) := by decide +kernel
theorem dX6_nextShow_94 : decode cX6_nextShow 94 = .ok (.iload 5, 2) := by decide +kernel
theorem dX6_nextShow_96 : decode cX6_nextShow 96 = .ok (.goto 5, 3) := by decide +kernel
theorem dX6_nextShow_99 : decode cX6_nextShow 99 = .ok (.iload 4, 2) := by decide +kernel
theorem dX6_nextShow_101 : decode cX6_nextShow 101 = .ok (.istore 4, 2) := by decide +kernel
theorem dX6_nextShow_103 : decode cX6_nextShow 103 = .ok (.iinc 5 1, 3) := by decide +kernel
theorem dX6_nextShow_106 : decode cX6_nextShow 106 = .ok (.goto (-100), 3) := by decide +kernel
theorem dX6_nextShow_109 : decode cX6_nextShow 109 = .ok (.iload 4, 2) := by decide +kernel
theorem dX6_nextShow_111 : decode cX6_nextShow 111 = .ok (.ireturn, 1) := by decide +kernel
set_option maxRecDepth 20000 in
theorem ggX6_write_X6_isHall : GoodIn wsX6_write wsX6_isHall := goodIn_ca (goodIn_r _ [6, 7, 8, 9, 5, 10, 117, 118, 119, 120, 121, 122, 123, 124, 125, 126, 127, 128, 129, 130, 131, 132, 133, 134, 135, 136, 137, 138, 139, 140, 141, 142, 143] (by decide +kernel) (by decide +kernel)) (goodIn_sub (fun _ h => List.mem_cons_of_mem _ (List.mem_append_left _ (List.mem_append_right _ h))) (by decide +kernel))
set_option maxRecDepth 20000 in
theorem gX6_write_X6_isHall : GoodIn wsX6_write (wsV RX6 104 RX6 yX6_isHall wsX6_isHall) := goodIn_app (goodIn_of _ (by decide +kernel)) ggX6_write_X6_isHall
set_option maxRecDepth 20000 in
theorem ggX6_write_X6_fails : GoodIn wsX6_write wsX6_fails := goodIn_r _ [14, 15, 117, 118, 119, 120, 121, 122, 123, 124, 125, 126, 127, 128, 129, 130, 131, 132, 133, 134, 135, 136, 137, 138, 139, 140, 141, 142, 143] (by decide +kernel) (by decide +kernel)
set_option maxRecDepth 20000 in
theorem gX6_write_X6_fails : GoodIn wsX6_write (wsV RX6 45 RX6 yX6_fails wsX6_fails) := goodIn_app (goodIn_of _ (by decide +kernel)) ggX6_write_X6_fails
set_option maxRecDepth 20000 in
theorem ggX6_write_X6_isDay : GoodIn wsX6_write wsX6_isDay := goodIn_r _ [18, 8, 9, 5, 10] (by decide +kernel) (by decide +kernel)
set_option maxRecDepth 20000 in
theorem gX6_write_X6_isDay : GoodIn wsX6_write (va_wsS RX6 74 yX6_isDay wsX6_isDay) := goodIn_app (goodIn_of _ (by decide +kernel)) ggX6_write_X6_isDay
set_option maxRecDepth 20000 in
theorem ggX6_write_X6_isClosed : GoodIn wsX6_write wsX6_isClosed := goodIn_ca (goodIn_r _ [22, 23, 24, 25, 5, 26, 7, 117, 118, 119, 120, 121, 122, 123, 124, 125, 126, 127, 128, 129, 130, 131, 132, 133, 134, 135, 136, 137, 138, 139, 140, 141, 142, 143] (by decide +kernel) (by decide +kernel)) (goodIn_sub (fun _ h => List.mem_cons_of_mem _ (List.mem_append_left _ (List.mem_append_right _ h))) (by decide +kernel))
set_option maxRecDepth 20000 in
theorem gX6_write_X6_isClosed : GoodIn wsX6_write (wsV RX6 172 RX6 yX6_isClosed wsX6_isClosed) := goodIn_app (goodIn_of _ (by decide +kernel)) ggX6_write_X6_isClosed
set_option maxRecDepth 20000 in
theorem ggX6_write_X6_writesWord : GoodIn wsX6_write wsX6_writesWord := goodIn_ca (goodIn_r _ [30, 31, 32, 33, 34, 35, 36, 37, 38, 39, 40, 41, 42, 43, 44, 45, 46, 47, 48, 49, 50, 51, 52, 53, 54, 55, 56, 57, 58, 59, 60, 61, 62, 63, 64, 65, 66, 67, 68, 69, 70, 71, 72, 73, 74, 75, 76, 77, 78, 79, 80, 81, 82, 5, 83, 84, 1, 144, 145, 146, 147, 117, 118, 119, 120, 121, 122, 123, 124, 125, 126, 127, 128, 129, 130, 131, 132, 133, 134, 135, 136, 137, 138, 139, 140, 141, 142, 143] (by decide +kernel) (by decide +kernel)) (goodIn_sub (fun _ h => List.mem_cons_of_mem _ (List.mem_append_left _ (List.mem_append_right _ h))) (by decide +kernel))
set_option maxRecDepth 20000 in
theorem gX6_write_X6_writesWord : GoodIn wsX6_write (wsV RX6 257 RX6 yX6_writesWord wsX6_writesWord) := goodIn_app (goodIn_of _ (by decide +kernel)) ggX6_write_X6_writesWord
set_option maxRecDepth 20000 in
theorem ggX6_write_X6_nextShow : GoodIn wsX6_write wsX6_nextShow := goodIn_ca (goodIn_r _ [88, 7, 89, 90, 91, 5, 92, 93, 94, 95, 96, 117, 118, 119, 120, 121, 122, 123, 124, 125, 126, 127, 128, 129, 130, 131, 132, 133, 134, 135, 136, 137, 138, 139, 140, 141, 142, 143] (by decide +kernel) (by decide +kernel)) (goodIn_sub (fun _ h => List.mem_cons_of_mem _ (List.mem_append_left _ (List.mem_append_right _ h))) (by decide +kernel))
set_option maxRecDepth 20000 in
theorem gX6_write_X6_nextShow : GoodIn wsX6_write (wsV RX6 261 RX6 yX6_nextShow wsX6_nextShow) := goodIn_app (goodIn_of _ (by decide +kernel)) ggX6_write_X6_nextShow
set_option maxRecDepth 20000 in
theorem ggX6_write_X6_showAt : GoodIn wsX6_write wsX6_showAt := goodIn_ca (goodIn_r _ [96, 7, 117, 118, 119, 120, 121, 122, 123, 124, 125, 126, 127, 128, 129, 130, 131, 132, 133, 134, 135, 136, 137, 138, 139, 140, 141, 142, 143] (by decide +kernel) (by decide +kernel)) (goodIn_sub (fun _ h => List.mem_cons_of_mem _ (List.mem_append_left _ (List.mem_append_right _ h))) (by decide +kernel))
set_option maxRecDepth 20000 in
theorem gX6_write_X6_showAt : GoodIn wsX6_write (wsV RX6 89 RX6 yX6_showAt wsX6_showAt) := goodIn_app (goodIn_of _ (by decide +kernel)) ggX6_write_X6_showAt
set_option maxRecDepth 20000 in
theorem ggX6_write_X6_writesNumber : GoodIn wsX6_write wsX6_writesNumber := goodIn_ca (goodIn_ca (goodIn_r _ [100, 80, 81, 82, 5, 83, 84, 1, 117, 118, 119, 120, 121, 122, 123, 124, 125, 126, 127, 128, 129, 130, 131, 132, 133, 134, 135, 136, 137, 138, 139, 140, 141, 142, 143] (by decide +kernel) (by decide +kernel)) (goodIn_sub (fun _ h => List.mem_cons_of_mem _ (List.mem_append_right _ h)) (by decide +kernel))) (goodIn_sub (fun _ h => List.mem_cons_of_mem _ (List.mem_append_left _ (List.mem_append_right _ h))) (by decide +kernel))
set_option maxRecDepth 20000 in
theorem gX6_write_X6_writesNumber : GoodIn wsX6_write (wsV RX6 266 RX6 yX6_writesNumber wsX6_writesNumber) := goodIn_app (goodIn_of _ (by decide +kernel)) ggX6_write_X6_writesNumber
set_option maxRecDepth 20000 in
theorem ggX6_write_X6_writesLetter : GoodIn wsX6_write wsX6_writesLetter := goodIn_ca (goodIn_r _ [83, 84, 1, 117, 118, 119, 120, 121, 122, 123, 124, 125, 126, 127, 128, 129, 130, 131, 132, 133, 134, 135, 136, 137, 138, 139, 140, 141, 142, 143] (by decide +kernel) (by decide +kernel)) (goodIn_sub (fun _ h => List.mem_cons_of_mem _ (List.mem_append_left _ (List.mem_append_right _ h))) (by decide +kernel))
set_option maxRecDepth 20000 in
theorem gX6_write_X6_writesLetter : GoodIn wsX6_write (wsV RX6 251 RX6 yX6_writesLetter wsX6_writesLetter) := goodIn_app (goodIn_of _ (by decide +kernel)) ggX6_write_X6_writesLetter
set_option maxRecDepth 20000 in
theorem ggX6_write_X6_endOf : GoodIn wsX6_write wsX6_endOf := goodIn_ca (goodIn_r _ [104, 93, 94, 95, 5, 96, 7, 105, 106, 107, 108, 109, 110, 111, 112, 117, 118, 119, 120, 121, 122, 123, 124, 125, 126, 127, 128, 129, 130, 131, 132, 133, 134, 135, 136, 137, 138, 139, 140, 141, 142, 143] (by decide +kernel) (by decide +kernel)) (goodIn_sub (fun _ h => List.mem_cons_of_mem _ (List.mem_append_left _ (List.mem_append_right _ h))) (by decide +kernel))
set_option maxRecDepth 20000 in
theorem gX6_write_X6_endOf : GoodIn wsX6_write (wsV RX6 151 RX6 yX6_endOf wsX6_endOf) := goodIn_app (goodIn_of _ (by decide +kernel)) ggX6_write_X6_endOf
set_option maxRecDepth 20000 in
theorem ggX6_write_X6_hallAt : GoodIn wsX6_write wsX6_hallAt := goodIn_ca (goodIn_r _ [26, 7, 117, 118, 119, 120, 121, 122, 123, 124, 125, 126, 127, 128, 129, 130, 131, 132, 133, 134, 135, 136, 137, 138, 139, 140, 141, 142, 143] (by decide +kernel) (by decide +kernel)) (goodIn_sub (fun _ h => List.mem_cons_of_mem _ (List.mem_append_left _ (List.mem_append_right _ h))) (by decide +kernel))
set_option maxRecDepth 20000 in
theorem gX6_write_X6_hallAt : GoodIn wsX6_write (wsV RX6 95 RX6 yX6_hallAt wsX6_hallAt) := goodIn_app (goodIn_of _ (by decide +kernel)) ggX6_write_X6_hallAt
set_option maxRecDepth 20000 in
theorem ggX6_write_X6_done : GoodIn wsX6_write wsX6_done := goodIn_r _ [116, 15, 117, 118, 119, 120, 121, 122, 123, 124, 125, 126, 127, 128, 129, 130, 131, 132, 133, 134, 135, 136, 137, 138, 139, 140, 141, 142, 143] (by decide +kernel) (by decide +kernel)
set_option maxRecDepth 20000 in
theorem gX6_write_X6_done : GoodIn wsX6_write (wsV RX6 71 RX6 yX6_done wsX6_done) := goodIn_app (goodIn_of _ (by decide +kernel)) ggX6_write_X6_done
theorem dX6_write_0 : decode cX6_write 0 = .ok (.aload_n 0, 1) := by decide +kernel
theorem dX6_write_1 : decode cX6_write 1 = .ok (.iload_n 1, 1) := by decide +kernel
theorem dX6_write_2 : decode cX6_write 2 = .ok (.invokevirtual 104, 3) := by decide +kernel
theorem dX6_write_5 : decode cX6_write 5 = .ok (.ifCond .ne 9, 3) := by decide +kernel
theorem dX6_write_8 : decode cX6_write 8 = .ok (.aload_n 0, 1) := by decide +kernel
theorem dX6_write_9 : decode cX6_write 9 = .ok (.iconst 1, 1) := by decide +kernel
theorem dX6_write_10 : decode cX6_write 10 = .ok (.invokevirtual 45, 3) := by decide +kernel
theorem dX6_write_13 : decode cX6_write 13 = .ok (.ireturn, 1) := by decide +kernel
theorem dX6_write_14 : decode cX6_write 14 = .ok (.iload_n 2, 1) := by decide +kernel
theorem dX6_write_15 : decode cX6_write 15 = .ok (.invokestatic 74, 3) := by decide +kernel
theorem dX6_write_18 : decode cX6_write 18 = .ok (.ifCond .ne 9, 3) := by decide +kernel
theorem dX6_write_21 : decode cX6_write 21 = .ok (.aload_n 0, 1) := by decide +kernel
theorem dX6_write_22 : decode cX6_write 22 = .ok (.iconst 2, 1) := by decide +kernel
theorem dX6_write_23 : decode cX6_write 23 = .ok (.invokevirtual 45, 3) := by decide +kernel
theorem dX6_write_26 : decode cX6_write 26 = .ok (.ireturn, 1) := by decide +kernel
theorem dX6_write_27 : decode cX6_write 27 = .ok (.aload_n 0, 1) := by decide +kernel
theorem dX6_write_28 : decode cX6_write 28 = .ok (.iconst 0, 1) := by decide +kernel
theorem dX6_write_29 : decode cX6_write 29 = .ok (.putfield 239, 3) := by decide +kernel
theorem dX6_write_32 : decode cX6_write 32 = .ok (.aload_n 0, 1) := by decide +kernel
theorem dX6_write_33 : decode cX6_write 33 = .ok (.iload_n 1, 1) := by decide +kernel
theorem dX6_write_34 : decode cX6_write 34 = .ok (.iload_n 2, 1) := by decide +kernel
theorem dX6_write_35 : decode cX6_write 35 = .ok (.invokevirtual 172, 3) := by decide +kernel
theorem dX6_write_38 : decode cX6_write 38 = .ok (.ifCond .eq 9, 3) := by decide +kernel
theorem dX6_write_41 : decode cX6_write 41 = .ok (.aload_n 0, 1) := by decide +kernel
theorem dX6_write_42 : decode cX6_write 42 = .ok (.ldc 255, 2) := by decide +kernel
theorem dX6_write_44 : decode cX6_write 44 = .ok (.invokevirtual 257, 3) := by decide +kernel
theorem dX6_write_47 : decode cX6_write 47 = .ok (.aload_n 0, 1) := by decide +kernel
theorem dX6_write_48 : decode cX6_write 48 = .ok (.iload_n 1, 1) := by decide +kernel
theorem dX6_write_49 : decode cX6_write 49 = .ok (.iload_n 2, 1) := by decide +kernel
theorem dX6_write_50 : decode cX6_write 50 = .ok (.iconst (-1), 1) := by decide +kernel
theorem dX6_write_51 : decode cX6_write 51 = .ok (.invokevirtual 261, 3) := by decide +kernel
theorem dX6_write_54 : decode cX6_write 54 = .ok (.istore_n 3, 1) := by decide +kernel
theorem dX6_write_55 : decode cX6_write 55 = .ok (.iload_n 3, 1) := by decide +kernel
theorem dX6_write_56 : decode cX6_write 56 = .ok (.iconst (-1), 1) := by decide +kernel
theorem dX6_write_57 : decode cX6_write 57 = .ok (.if_icmp .ne 10, 3) := by decide +kernel
theorem dX6_write_60 : decode cX6_write 60 = .ok (.aload_n 0, 1) := by decide +kernel
theorem dX6_write_61 : decode cX6_write 61 = .ok (.ldc_w 264, 3) := by decide +kernel
theorem dX6_write_64 : decode cX6_write 64 = .ok (.invokevirtual 257, 3) := by decide +kernel
theorem dX6_write_67 : decode cX6_write 67 = .ok (.iload_n 3, 1) := by decide +kernel
theorem dX6_write_68 : decode cX6_write 68 = .ok (.iconst (-1), 1) := by decide +kernel
theorem dX6_write_69 : decode cX6_write 69 = .ok (.if_icmp .eq 106, 3) := by decide +kernel
theorem dX6_write_72 : decode cX6_write 72 = .ok (.aload_n 0, 1) := by decide +kernel
theorem dX6_write_73 : decode cX6_write 73 = .ok (.aload_n 0, 1) := by decide +kernel
theorem dX6_write_74 : decode cX6_write 74 = .ok (.iload_n 3, 1) := by decide +kernel
theorem dX6_write_75 : decode cX6_write 75 = .ok (.iconst 3, 1) := by decide +kernel
theorem dX6_write_76 : decode cX6_write 76 = .ok (.invokevirtual 89, 3) := by decide +kernel
theorem dX6_write_79 : decode cX6_write 79 = .ok (.invokevirtual 266, 3) := by decide +kernel
theorem dX6_write_82 : decode cX6_write 82 = .ok (.aload_n 0, 1) := by decide +kernel
theorem dX6_write_83 : decode cX6_write 83 = .ok (.bipush 45, 2) := by decide +kernel
theorem dX6_write_85 : decode cX6_write 85 = .ok (.invokevirtual 251, 3) := by decide +kernel
theorem dX6_write_88 : decode cX6_write 88 = .ok (.aload_n 0, 1) := by decide +kernel
theorem dX6_write_89 : decode cX6_write 89 = .ok (.aload_n 0, 1) := by decide +kernel
theorem dX6_write_90 : decode cX6_write 90 = .ok (.iload_n 3, 1) := by decide +kernel
theorem dX6_write_91 : decode cX6_write 91 = .ok (.invokevirtual 151, 3) := by decide +kernel
theorem dX6_write_94 : decode cX6_write 94 = .ok (.invokevirtual 266, 3) := by decide +kernel
theorem dX6_write_97 : decode cX6_write 97 = .ok (.aload_n 0, 1) := by decide +kernel
theorem dX6_write_98 : decode cX6_write 98 = .ok (.ldc_w 270, 3) := by decide +kernel
theorem dX6_write_101 : decode cX6_write 101 = .ok (.invokevirtual 257, 3) := by decide +kernel
theorem dX6_write_104 : decode cX6_write 104 = .ok (.aload_n 0, 1) := by decide +kernel
theorem dX6_write_105 : decode cX6_write 105 = .ok (.aload_n 0, 1) := by decide +kernel
theorem dX6_write_106 : decode cX6_write 106 = .ok (.iload_n 3, 1) := by decide +kernel
theorem dX6_write_107 : decode cX6_write 107 = .ok (.iconst 1, 1) := by decide +kernel
theorem dX6_write_108 : decode cX6_write 108 = .ok (.invokevirtual 89, 3) := by decide +kernel
theorem dX6_write_111 : decode cX6_write 111 = .ok (.invokevirtual 266, 3) := by decide +kernel
theorem dX6_write_114 : decode cX6_write 114 = .ok (.aload_n 0, 1) := by decide +kernel
theorem dX6_write_115 : decode cX6_write 115 = .ok (.bipush 32, 2) := by decide +kernel
theorem dX6_write_117 : decode cX6_write 117 = .ok (.invokevirtual 251, 3) := by decide +kernel
theorem dX6_write_120 : decode cX6_write 120 = .ok (.aload_n 0, 1) := by decide +kernel
theorem dX6_write_121 : decode cX6_write 121 = .ok (.aload_n 0, 1) := by decide +kernel
theorem dX6_write_122 : decode cX6_write 122 = .ok (.iload_n 3, 1) := by decide +kernel
theorem dX6_write_123 : decode cX6_write 123 = .ok (.bipush 7, 2) := by decide +kernel
theorem dX6_write_125 : decode cX6_write 125 = .ok (.invokevirtual 89, 3) := by decide +kernel
theorem dX6_write_128 : decode cX6_write 128 = .ok (.invokevirtual 266, 3) := by decide +kernel
theorem dX6_write_131 : decode cX6_write 131 = .ok (.aload_n 0, 1) := by decide +kernel
theorem dX6_write_132 : decode cX6_write 132 = .ok (.bipush 47, 2) := by decide +kernel
theorem dX6_write_134 : decode cX6_write 134 = .ok (.invokevirtual 251, 3) := by decide +kernel
theorem dX6_write_137 : decode cX6_write 137 = .ok (.aload_n 0, 1) := by decide +kernel
theorem dX6_write_138 : decode cX6_write 138 = .ok (.aload_n 0, 1) := by decide +kernel
theorem dX6_write_139 : decode cX6_write 139 = .ok (.iload_n 1, 1) := by decide +kernel
theorem dX6_write_140 : decode cX6_write 140 = .ok (.iconst 0, 1) := by decide +kernel
theorem dX6_write_141 : decode cX6_write 141 = .ok (.invokevirtual 95, 3) := by decide +kernel
theorem dX6_write_144 : decode cX6_write 144 = .ok (.invokevirtual 266, 3) := by decide +kernel
theorem dX6_write_147 : decode cX6_write 147 = .ok (.aload_n 0, 1) := by decide +kernel
theorem dX6_write_148 : decode cX6_write 148 = .ok (.iload_n 1, 1) := by decide +kernel
theorem dX6_write_149 : decode cX6_write 149 = .ok (.iload_n 2, 1) := by decide +kernel
theorem dX6_write_150 : decode cX6_write 150 = .ok (.aload_n 0, 1) := by decide +kernel
theorem dX6_write_151 : decode cX6_write 151 = .ok (.iload_n 3, 1) := by decide +kernel
theorem dX6_write_152 : decode cX6_write 152 = .ok (.iconst 3, 1) := by decide +kernel
theorem dX6_write_153 : decode cX6_write 153 = .ok (.invokevirtual 89, 3) := by decide +kernel
theorem dX6_write_156 : decode cX6_write 156 = .ok (.invokevirtual 261, 3) := by decide +kernel
theorem dX6_write_159 : decode cX6_write 159 = .ok (.istore_n 3, 1) := by decide +kernel
theorem dX6_write_160 : decode cX6_write 160 = .ok (.iload_n 3, 1) := by decide +kernel
theorem dX6_write_161 : decode cX6_write 161 = .ok (.iconst (-1), 1) := by decide +kernel
theorem dX6_write_162 : decode cX6_write 162 = .ok (.if_icmp .eq (-95), 3) := by decide +kernel
theorem dX6_write_165 : decode cX6_write 165 = .ok (.aload_n 0, 1) := by decide +kernel
theorem dX6_write_166 : decode cX6_write 166 = .ok (.ldc_w 272, 3) := by decide +kernel
theorem dX6_write_169 : decode cX6_write 169 = .ok (.invokevirtual 257, 3) := by decide +kernel
theorem dX6_write_172 : decode cX6_write 172 = .ok (.goto (-105), 3) := by decide +kernel
theorem dX6_write_175 : decode cX6_write 175 = .ok (.aload_n 0, 1) := by decide +kernel
theorem dX6_write_176 : decode cX6_write 176 = .ok (.aload_n 0, 1) := by decide +kernel
theorem dX6_write_177 : decode cX6_write 177 = .ok (.getfield 239, 3) := by decide +kernel
theorem dX6_write_180 : decode cX6_write 180 = .ok (.invokevirtual 71, 3) := by decide +kernel
theorem dX6_write_183 : decode cX6_write 183 = .ok (.ireturn, 1) := by decide +kernel
set_option maxRecDepth 20000 in
theorem ggX6_written_X6_in : GoodIn wsX6_written wsX6_in := goodIn_r _ [7] (by decide +kernel) (by decide +kernel)
set_option maxRecDepth 20000 in
theorem gX6_written_X6_in : GoodIn wsX6_written (va_wsS RX6 64 yX6_in wsX6_in) := goodIn_app (goodIn_of _ (by decide +kernel)) ggX6_written_X6_in
set_option maxRecDepth 20000 in
theorem ggX6_written_X6_fails : GoodIn wsX6_written wsX6_fails := goodIn_r _ [11, 2, 12, 13, 14, 15, 16, 17, 18, 19, 20, 21, 22, 23, 24, 25, 26, 27, 28, 29, 30, 31, 32, 33, 34, 35, 36, 37, 38] (by decide +kernel) (by decide +kernel)
set_option maxRecDepth 20000 in
theorem gX6_written_X6_fails : GoodIn wsX6_written (wsV RX6 45 RX6 yX6_fails wsX6_fails) := goodIn_app (goodIn_of _ (by decide +kernel)) ggX6_written_X6_fails
theorem dX6_written_0 : decode cX6_written 0 = .ok (.iload_n 1, 1) := by decide +kernel
theorem dX6_written_1 : decode cX6_written 1 = .ok (.iconst 0, 1) := by decide +kernel
theorem dX6_written_2 : decode cX6_written 2 = .ok (.aload_n 0, 1) := by decide +kernel
theorem dX6_written_3 : decode cX6_written 3 = .ok (.getfield 239, 3) := by decide +kernel
theorem dX6_written_6 : decode cX6_written 6 = .ok (.iconst 1, 1) := by decide +kernel
theorem dX6_written_7 : decode cX6_written 7 = .ok (.isub, 1) := by decide +kernel
theorem dX6_written_8 : decode cX6_written 8 = .ok (.invokestatic 64, 3) := by decide +kernel
theorem dX6_written_11 : decode cX6_written 11 = .ok (.ifCond .ne 10, 3) := by decide +kernel
theorem dX6_written_14 : decode cX6_written 14 = .ok (.aload_n 0, 1) := by decide +kernel
theorem dX6_written_15 : decode cX6_written 15 = .ok (.iconst 1, 1) := by decide +kernel
theorem dX6_written_16 : decode cX6_written 16 = .ok (.invokevirtual 45, 3) := by decide +kernel
theorem dX6_written_19 : decode cX6_written 19 = .ok (.i2c, 1) := by decide +kernel
theorem dX6_written_20 : decode cX6_written 20 = .ok (.ireturn, 1) := by decide +kernel
theorem dX6_written_21 : decode cX6_written 21 = .ok (.aload_n 0, 1) := by decide +kernel
theorem dX6_written_22 : decode cX6_written 22 = .ok (.iconst 0, 1) := by decide +kernel
theorem dX6_written_23 : decode cX6_written 23 = .ok (.putfield 36, 3) := by decide +kernel
theorem dX6_written_26 : decode cX6_written 26 = .ok (.aload_n 0, 1) := by decide +kernel
theorem dX6_written_27 : decode cX6_written 27 = .ok (.getfield 30, 3) := by decide +kernel
theorem dX6_written_30 : decode cX6_written 30 = .ok (.iload_n 1, 1) := by decide +kernel
theorem dX6_written_31 : decode cX6_written 31 = .ok (.caload, 1) := by decide +kernel
theorem dX6_written_32 : decode cX6_written 32 = .ok (.ireturn, 1) := by decide +kernel
set_option maxRecDepth 20000 in
theorem ggX6_append_X6_in : GoodIn wsX6_append wsX6_in := goodIn_r _ [6] (by decide +kernel) (by decide +kernel)
set_option maxRecDepth 20000 in
theorem gX6_append_X6_in : GoodIn wsX6_append (va_wsS RX6 64 yX6_in wsX6_in) := goodIn_app (goodIn_of _ (by decide +kernel)) ggX6_append_X6_in
set_option maxRecDepth 20000 in
theorem ggX6_append_X6_fails : GoodIn wsX6_append wsX6_fails := goodIn_r _ [10, 11, 16, 17, 18, 19, 20, 21, 22, 23, 24, 25, 26, 27, 28, 29, 30, 31, 32, 33, 34, 35, 36, 37, 38, 39, 40, 41, 42] (by decide +kernel) (by decide +kernel)
set_option maxRecDepth 20000 in
theorem gX6_append_X6_fails : GoodIn wsX6_append (wsV RX6 45 RX6 yX6_fails wsX6_fails) := goodIn_app (goodIn_of _ (by decide +kernel)) ggX6_append_X6_fails
set_option maxRecDepth 20000 in
theorem ggX6_append_X6_done : GoodIn wsX6_append wsX6_done := goodIn_r _ [15, 11, 16, 17, 18, 19, 20, 21, 22, 23, 24, 25, 26, 27, 28, 29, 30, 31, 32, 33, 34, 35, 36, 37, 38, 39, 40, 41, 42] (by decide +kernel) (by decide +kernel)
set_option maxRecDepth 20000 in
theorem gX6_append_X6_done : GoodIn wsX6_append (wsV RX6 71 RX6 yX6_done wsX6_done) := goodIn_app (goodIn_of _ (by decide +kernel)) ggX6_append_X6_done
theorem dX6_append_0 : decode cX6_append 0 = .ok (.iload_n 1, 1) := by decide +kernel
theorem dX6_append_1 : decode cX6_append 1 = .ok (.bipush 32, 2) := by decide +kernel
theorem dX6_append_3 : decode cX6_append 3 = .ok (.bipush 126, 2) := by decide +kernel
theorem dX6_append_5 : decode cX6_append 5 = .ok (.invokestatic 64, 3) := by decide +kernel
theorem dX6_append_8 : decode cX6_append 8 = .ok (.ifCond .ne 9, 3) := by decide +kernel
theorem dX6_append_11 : decode cX6_append 11 = .ok (.aload_n 0, 1) := by decide +kernel
theorem dX6_append_12 : decode cX6_append 12 = .ok (.iconst 1, 1) := by decide +kernel
theorem dX6_append_13 : decode cX6_append 13 = .ok (.invokevirtual 45, 3) := by decide +kernel
theorem dX6_append_16 : decode cX6_append 16 = .ok (.ireturn, 1) := by decide +kernel
theorem dX6_append_17 : decode cX6_append 17 = .ok (.aload_n 0, 1) := by decide +kernel
theorem dX6_append_18 : decode cX6_append 18 = .ok (.getfield 274, 3) := by decide +kernel
theorem dX6_append_21 : decode cX6_append 21 = .ok (.bipush 60, 2) := by decide +kernel
theorem dX6_append_23 : decode cX6_append 23 = .ok (.if_icmp .ne 9, 3) := by decide +kernel
theorem dX6_append_26 : decode cX6_append 26 = .ok (.aload_n 0, 1) := by decide +kernel
theorem dX6_append_27 : decode cX6_append 27 = .ok (.iconst 2, 1) := by decide +kernel
theorem dX6_append_28 : decode cX6_append 28 = .ok (.invokevirtual 45, 3) := by decide +kernel
theorem dX6_append_31 : decode cX6_append 31 = .ok (.ireturn, 1) := by decide +kernel
theorem dX6_append_32 : decode cX6_append 32 = .ok (.aload_n 0, 1) := by decide +kernel
theorem dX6_append_33 : decode cX6_append 33 = .ok (.getfield 22, 3) := by decide +kernel
theorem dX6_append_36 : decode cX6_append 36 = .ok (.aload_n 0, 1) := by decide +kernel
theorem dX6_append_37 : decode cX6_append 37 = .ok (.getfield 274, 3) := by decide +kernel
theorem dX6_append_40 : decode cX6_append 40 = .ok (.iload_n 1, 1) := by decide +kernel
theorem dX6_append_41 : decode cX6_append 41 = .ok (.castore, 1) := by decide +kernel
theorem dX6_append_42 : decode cX6_append 42 = .ok (.aload_n 0, 1) := by decide +kernel
theorem dX6_append_43 : decode cX6_append 43 = .ok (.dup, 1) := by decide +kernel
theorem dX6_append_44 : decode cX6_append 44 = .ok (.getfield 274, 3) := by decide +kernel
theorem dX6_append_47 : decode cX6_append 47 = .ok (.iconst 1, 1) := by decide +kernel
theorem dX6_append_48 : decode cX6_append 48 = .ok (.iadd, 1) := by decide +kernel
theorem dX6_append_49 : decode cX6_append 49 = .ok (.putfield 274, 3) := by decide +kernel
theorem dX6_append_52 : decode cX6_append 52 = .ok (.aload_n 0, 1) := by decide +kernel
theorem dX6_append_53 : decode cX6_append 53 = .ok (.aload_n 0, 1) := by decide +kernel
theorem dX6_append_54 : decode cX6_append 54 = .ok (.getfield 274, 3) := by decide +kernel
theorem dX6_append_57 : decode cX6_append 57 = .ok (.invokevirtual 71, 3) := by decide +kernel
theorem dX6_append_60 : decode cX6_append 60 = .ok (.ireturn, 1) := by decide +kernel
theorem dX6_here_0 : decode cX6_here 0 = .ok (.aload_n 0, 1) := by decide +kernel
theorem dX6_here_1 : decode cX6_here 1 = .ok (.getfield 277, 3) := by decide +kernel
theorem dX6_here_4 : decode cX6_here 4 = .ok (.aload_n 0, 1) := by decide +kernel
theorem dX6_here_5 : decode cX6_here 5 = .ok (.getfield 274, 3) := by decide +kernel
theorem dX6_here_8 : decode cX6_here 8 = .ok (.if_icmp .ge 15, 3) := by decide +kernel
theorem dX6_here_11 : decode cX6_here 11 = .ok (.aload_n 0, 1) := by decide +kernel
theorem dX6_here_12 : decode cX6_here 12 = .ok (.getfield 22, 3) := by decide +kernel
theorem dX6_here_15 : decode cX6_here 15 = .ok (.aload_n 0, 1) := by decide +kernel
theorem dX6_here_16 : decode cX6_here 16 = .ok (.getfield 277, 3) := by decide +kernel
theorem dX6_here_19 : decode cX6_here 19 = .ok (.caload, 1) := by decide +kernel
theorem dX6_here_20 : decode cX6_here 20 = .ok (.goto 4, 3) := by decide +kernel
theorem dX6_here_23 : decode cX6_here 23 = .ok (.iconst (-1), 1) := by decide +kernel
theorem dX6_here_24 : decode cX6_here 24 = .ok (.ireturn, 1) := by decide +kernel
set_option maxRecDepth 20000 in
theorem ggX6_letterOf_J0_charAt_5068e : GoodIn wsX6_letterOf wsJ0_charAt_5068e := goodIn_r _ [5, 6, 7, 8, 9, 4, 10, 11, 12, 13, 14, 15, 16, 17, 18, 19, 20, 21, 22, 23, 24, 25, 26, 27, 28, 29, 30, 31, 32, 33, 34, 35, 36, 37, 38, 39, 40, 41, 42, 43, 44, 45] (by decide +kernel) (by decide +kernel)
set_option maxRecDepth 20000 in
theorem gX6_letterOf_J0_charAt_5068e : GoodIn wsX6_letterOf (wsV RX6 247 RJ0 yJ0_charAt_5068e wsJ0_charAt_5068e) := goodIn_app (goodIn_of _ (by decide +kernel)) ggX6_letterOf_J0_charAt_5068e
theorem dX6_letterOf_0 : decode cX6_letterOf 0 = .ok (.iload_n 0, 1) := by decide +kernel
theorem dX6_letterOf_1 : decode cX6_letterOf 1 = .ok (.ifCond .ne 9, 3) := by decide +kernel
theorem dX6_letterOf_4 : decode cX6_letterOf 4 = .ok (.ldc_w 280, 3) := by decide +kernel
theorem dX6_letterOf_7 : decode cX6_letterOf 7 = .ok (.goto 39, 3) := by decide +kernel
theorem dX6_letterOf_10 : decode cX6_letterOf 10 = .ok (.iload_n 0, 1) := by decide +kernel
theorem dX6_letterOf_11 : decode cX6_letterOf 11 = .ok (.iconst 1, 1) := by decide +kernel
theorem dX6_letterOf_12 : decode cX6_letterOf 12 = .ok (.if_icmp .ne 9, 3) := by decide +kernel
theorem dX6_letterOf_15 : decode cX6_letterOf 15 = .ok (.ldc_w 282, 3) := by decide +kernel
theorem dX6_letterOf_18 : decode cX6_letterOf 18 = .ok (.goto 28, 3) := by decide +kernel
theorem dX6_letterOf_21 : decode cX6_letterOf 21 = .ok (.iload_n 0, 1) := by decide +kernel
theorem dX6_letterOf_22 : decode cX6_letterOf 22 = .ok (.iconst 2, 1) := by decide +kernel
theorem dX6_letterOf_23 : decode cX6_letterOf 23 = .ok (.if_icmp .ne 9, 3) := by decide +kernel
theorem dX6_letterOf_26 : decode cX6_letterOf 26 = .ok (.ldc_w 284, 3) := by decide +kernel
theorem dX6_letterOf_29 : decode cX6_letterOf 29 = .ok (.goto 17, 3) := by decide +kernel
theorem dX6_letterOf_32 : decode cX6_letterOf 32 = .ok (.iload_n 0, 1) := by decide +kernel
theorem dX6_letterOf_33 : decode cX6_letterOf 33 = .ok (.iconst 3, 1) := by decide +kernel
theorem dX6_letterOf_34 : decode cX6_letterOf 34 = .ok (.if_icmp .ne 9, 3) := by decide +kernel
theorem dX6_letterOf_37 : decode cX6_letterOf 37 = .ok (.ldc_w 286, 3) := by decide +kernel
