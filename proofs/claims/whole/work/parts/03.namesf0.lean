theorem dX6_breaks_211 : decode cX6_breaks 211 = .ok (.aload_n 0, 1) := by decide +kernel
theorem dX6_breaks_212 : decode cX6_breaks 212 = .ok (.bipush 8, 2) := by decide +kernel
theorem dX6_breaks_214 : decode cX6_breaks 214 = .ok (.iload 9, 2) := by decide +kernel
theorem dX6_breaks_216 : decode cX6_breaks 216 = .ok (.invokevirtual 169, 3) := by decide +kernel
theorem dX6_breaks_219 : decode cX6_breaks 219 = .ok (.ireturn, 1) := by decide +kernel
theorem dX6_breaks_220 : decode cX6_breaks 220 = .ok (.aload_n 0, 1) := by decide +kernel
theorem dX6_breaks_221 : decode cX6_breaks 221 = .ok (.invokevirtual 185, 3) := by decide +kernel
theorem dX6_breaks_224 : decode cX6_breaks 224 = .ok (.istore 10, 2) := by decide +kernel
theorem dX6_breaks_226 : decode cX6_breaks 226 = .ok (.iload 10, 2) := by decide +kernel
theorem dX6_breaks_228 : decode cX6_breaks 228 = .ok (.iconst (-1), 1) := by decide +kernel
theorem dX6_breaks_229 : decode cX6_breaks 229 = .ok (.if_icmp .eq 14, 3) := by decide +kernel
theorem dX6_breaks_232 : decode cX6_breaks 232 = .ok (.aload_n 0, 1) := by decide +kernel
theorem dX6_breaks_233 : decode cX6_breaks 233 = .ok (.bipush 9, 2) := by decide +kernel
theorem dX6_breaks_235 : decode cX6_breaks 235 = .ok (.iload 10, 2) := by decide +kernel
theorem dX6_breaks_237 : decode cX6_breaks 237 = .ok (.invokevirtual 169, 3) := by decide +kernel
theorem dX6_breaks_240 : decode cX6_breaks 240 = .ok (.goto 9, 3) := by decide +kernel
theorem dX6_breaks_243 : decode cX6_breaks 243 = .ok (.aload_n 0, 1) := by decide +kernel
theorem dX6_breaks_244 : decode cX6_breaks 244 = .ok (.iconst 0, 1) := by decide +kernel
theorem dX6_breaks_245 : decode cX6_breaks 245 = .ok (.iconst (-1), 1) := by decide +kernel
theorem dX6_breaks_246 : decode cX6_breaks 246 = .ok (.invokevirtual 169, 3) := by decide +kernel
theorem dX6_breaks_249 : decode cX6_breaks 249 = .ok (.ireturn, 1) := by decide +kernel
set_option maxRecDepth 20000 in
theorem ggX6_breaksNew_X6_bestReel : GoodIn wsX6_breaksNew wsX6_bestReel := goodIn_ca (goodIn_r _ [5, 6, 7, 8, 9, 4, 10, 11, 12, 13, 14, 15, 16, 17, 18, 19, 20, 21, 22, 23, 24, 25, 26, 27, 28, 29, 30, 31, 32, 33, 108, 109, 110, 111, 112, 113, 114, 115, 116, 117, 118, 119, 120, 121, 122, 123, 124, 125, 126, 127, 128, 129, 130, 131, 132, 133, 134] (by decide +kernel) (by decide +kernel)) (goodIn_sub (fun _ h => List.mem_cons_of_mem _ (List.mem_append_right _ h)) (by decide +kernel))
set_option maxRecDepth 20000 in
theorem gX6_breaksNew_X6_bestReel : GoodIn wsX6_breaksNew (wsV RX6 130 RX6 yX6_bestReel wsX6_bestReel) := goodIn_app (goodIn_of _ (by decide +kernel)) ggX6_breaksNew_X6_bestReel
set_option maxRecDepth 20000 in
theorem ggX6_breaksNew_X6_lengthOf : GoodIn wsX6_breaksNew wsX6_lengthOf := goodIn_ca (goodIn_r _ [29, 6, 11, 12, 13, 4, 14, 108, 109, 110, 111, 112, 113, 114, 115, 116, 117, 118, 119, 120, 121, 122, 123, 124, 125, 126, 127, 128, 129, 130, 131, 132, 133, 134] (by decide +kernel) (by decide +kernel)) (goodIn_sub (fun _ h => List.mem_cons_of_mem _ (List.mem_append_right _ h)) (by decide +kernel))
set_option maxRecDepth 20000 in
theorem gX6_breaksNew_X6_lengthOf : GoodIn wsX6_breaksNew (wsV RX6 119 RX6 yX6_lengthOf wsX6_lengthOf) := goodIn_app (goodIn_of _ (by decide +kernel)) ggX6_breaksNew_X6_lengthOf
set_option maxRecDepth 20000 in
theorem ggX6_breaksNew_X6_filmAt : GoodIn wsX6_breaksNew wsX6_filmAt := goodIn_ca (goodIn_r _ [18, 6, 108, 109, 110, 111, 112, 113, 114, 115, 116, 117, 118, 119, 120, 121, 122, 123, 124, 125, 126, 127, 128, 129, 130, 131, 132, 133, 134] (by decide +kernel) (by decide +kernel)) (goodIn_sub (fun _ h => List.mem_cons_of_mem _ (List.mem_append_right _ h)) (by decide +kernel))
set_option maxRecDepth 20000 in
theorem gX6_breaksNew_X6_filmAt : GoodIn wsX6_breaksNew (wsV RX6 81 RX6 yX6_filmAt wsX6_filmAt) := goodIn_app (goodIn_of _ (by decide +kernel)) ggX6_breaksNew_X6_filmAt
set_option maxRecDepth 20000 in
theorem ggX6_breaksNew_X6_breaks : GoodIn wsX6_breaksNew wsX6_breaks := goodIn_ca (goodIn_r _ [37, 38, 39, 40, 41, 42, 43, 6, 44, 45, 46, 4, 47, 48, 49, 50, 51, 52, 53, 54, 55, 56, 15, 16, 17, 18, 57, 58, 59, 60, 61, 62, 63, 64, 65, 66, 67, 68, 69, 70, 71, 72, 73, 74, 75, 76, 77, 78, 79, 80, 81, 82, 83, 84, 85, 86, 87, 88, 89, 90, 91, 92, 93, 94, 95, 96, 97, 98, 99, 100, 101, 102, 103, 104, 105, 106, 107, 108, 109, 110, 111, 112, 113, 114, 115, 116, 117, 118, 119, 120, 121, 122, 123, 124, 125, 126, 127, 128, 129, 130, 131, 132, 133, 134] (by decide +kernel) (by decide +kernel)) (goodIn_sub (fun _ h => List.mem_cons_of_mem _ (List.mem_append_right _ h)) (by decide +kernel))
set_option maxRecDepth 20000 in
theorem gX6_breaksNew_X6_breaks : GoodIn wsX6_breaksNew (wsV RX6 188 RX6 yX6_breaks wsX6_breaks) := goodIn_app (goodIn_of _ (by decide +kernel)) ggX6_breaksNew_X6_breaks
theorem dX6_breaksNew_0 : decode cX6_breaksNew 0 = .ok (.aload_n 0, 1) := by decide +kernel
theorem dX6_breaksNew_1 : decode cX6_breaksNew 1 = .ok (.iload_n 1, 1) := by decide +kernel
theorem dX6_breaksNew_2 : decode cX6_breaksNew 2 = .ok (.iload_n 2, 1) := by decide +kernel
theorem dX6_breaksNew_3 : decode cX6_breaksNew 3 = .ok (.iload_n 3, 1) := by decide +kernel
theorem dX6_breaksNew_4 : decode cX6_breaksNew 4 = .ok (.iload 4, 2) := by decide +kernel
theorem dX6_breaksNew_6 : decode cX6_breaksNew 6 = .ok (.aload_n 0, 1) := by decide +kernel
theorem dX6_breaksNew_7 : decode cX6_breaksNew 7 = .ok (.aload_n 0, 1) := by decide +kernel
theorem dX6_breaksNew_8 : decode cX6_breaksNew 8 = .ok (.iload_n 2, 1) := by decide +kernel
theorem dX6_breaksNew_9 : decode cX6_breaksNew 9 = .ok (.iload_n 3, 1) := by decide +kernel
theorem dX6_breaksNew_10 : decode cX6_breaksNew 10 = .ok (.invokevirtual 130, 3) := by decide +kernel
theorem dX6_breaksNew_13 : decode cX6_breaksNew 13 = .ok (.invokevirtual 119, 3) := by decide +kernel
theorem dX6_breaksNew_16 : decode cX6_breaksNew 16 = .ok (.aload_n 0, 1) := by decide +kernel
theorem dX6_breaksNew_17 : decode cX6_breaksNew 17 = .ok (.iload_n 2, 1) := by decide +kernel
theorem dX6_breaksNew_18 : decode cX6_breaksNew 18 = .ok (.iconst 0, 1) := by decide +kernel
theorem dX6_breaksNew_19 : decode cX6_breaksNew 19 = .ok (.invokevirtual 81, 3) := by decide +kernel
theorem dX6_breaksNew_22 : decode cX6_breaksNew 22 = .ok (.iadd, 1) := by decide +kernel
theorem dX6_breaksNew_23 : decode cX6_breaksNew 23 = .ok (.iconst (-1), 1) := by decide +kernel
theorem dX6_breaksNew_24 : decode cX6_breaksNew 24 = .ok (.invokevirtual 188, 3) := by decide +kernel
theorem dX6_breaksNew_27 : decode cX6_breaksNew 27 = .ok (.ireturn, 1) := by decide +kernel
set_option maxRecDepth 20000 in
theorem ggX6_isPlace_X6_isDay : GoodIn wsX6_isPlace wsX6_isDay := goodIn_r _ [4, 5, 6, 3, 7] (by decide +kernel) (by decide +kernel)
set_option maxRecDepth 20000 in
theorem gX6_isPlace_X6_isDay : GoodIn wsX6_isPlace (va_wsS RX6 74 yX6_isDay wsX6_isDay) := goodIn_app (goodIn_of _ (by decide +kernel)) ggX6_isPlace_X6_isDay
set_option maxRecDepth 20000 in
theorem ggX6_isPlace_X6_in : GoodIn wsX6_isPlace wsX6_in := goodIn_r _ [7] (by decide +kernel) (by decide +kernel)
set_option maxRecDepth 20000 in
theorem gX6_isPlace_X6_in : GoodIn wsX6_isPlace (va_wsS RX6 64 yX6_in wsX6_in) := goodIn_app (goodIn_of _ (by decide +kernel)) ggX6_isPlace_X6_in
theorem dX6_isPlace_0 : decode cX6_isPlace 0 = .ok (.iload_n 0, 1) := by decide +kernel
theorem dX6_isPlace_1 : decode cX6_isPlace 1 = .ok (.invokestatic 74, 3) := by decide +kernel
theorem dX6_isPlace_4 : decode cX6_isPlace 4 = .ok (.ifCond .eq 18, 3) := by decide +kernel
theorem dX6_isPlace_7 : decode cX6_isPlace 7 = .ok (.iload_n 1, 1) := by decide +kernel
theorem dX6_isPlace_8 : decode cX6_isPlace 8 = .ok (.iconst 0, 1) := by decide +kernel
theorem dX6_isPlace_9 : decode cX6_isPlace 9 = .ok (.sipush 959, 3) := by decide +kernel
theorem dX6_isPlace_12 : decode cX6_isPlace 12 = .ok (.invokestatic 64, 3) := by decide +kernel
theorem dX6_isPlace_15 : decode cX6_isPlace 15 = .ok (.ifCond .eq 7, 3) := by decide +kernel
theorem dX6_isPlace_18 : decode cX6_isPlace 18 = .ok (.iconst 1, 1) := by decide +kernel
theorem dX6_isPlace_19 : decode cX6_isPlace 19 = .ok (.goto 4, 3) := by decide +kernel
theorem dX6_isPlace_22 : decode cX6_isPlace 22 = .ok (.iconst 0, 1) := by decide +kernel
theorem dX6_isPlace_23 : decode cX6_isPlace 23 = .ok (.ireturn, 1) := by decide +kernel
set_option maxRecDepth 20000 in
theorem ggX6_plan_X6_isHall : GoodIn wsX6_plan wsX6_isHall := goodIn_ca (goodIn_r _ [7, 2, 8, 9, 6, 10, 155, 156, 157, 158, 159, 160, 161, 162, 163, 164, 165, 166, 167, 168, 169, 170, 171, 172, 173, 174, 175, 176, 177, 178, 179, 180, 181] (by decide +kernel) (by decide +kernel)) (goodIn_sub (fun _ h => List.mem_cons_of_mem _ (List.mem_append_right _ h)) (by decide +kernel))
set_option maxRecDepth 20000 in
theorem gX6_plan_X6_isHall : GoodIn wsX6_plan (wsV RX6 104 RX6 yX6_isHall wsX6_isHall) := goodIn_app (goodIn_of _ (by decide +kernel)) ggX6_plan_X6_isHall
set_option maxRecDepth 20000 in
theorem ggX6_plan_X6_isFilm : GoodIn wsX6_plan wsX6_isFilm := goodIn_ca (goodIn_r _ [14, 2, 8, 9, 6, 10, 155, 156, 157, 158, 159, 160, 161, 162, 163, 164, 165, 166, 167, 168, 169, 170, 171, 172, 173, 174, 175, 176, 177, 178, 179, 180, 181] (by decide +kernel) (by decide +kernel)) (goodIn_sub (fun _ h => List.mem_cons_of_mem _ (List.mem_append_right _ h)) (by decide +kernel))
set_option maxRecDepth 20000 in
theorem gX6_plan_X6_isFilm : GoodIn wsX6_plan (wsV RX6 78 RX6 yX6_isFilm wsX6_isFilm) := goodIn_app (goodIn_of _ (by decide +kernel)) ggX6_plan_X6_isFilm
set_option maxRecDepth 20000 in
theorem ggX6_plan_X6_fails : GoodIn wsX6_plan wsX6_fails := goodIn_r _ [18, 19, 155, 156, 157, 158, 159, 160, 161, 162, 163, 164, 165, 166, 167, 168, 169, 170, 171, 172, 173, 174, 175, 176, 177, 178, 179, 180, 181] (by decide +kernel) (by decide +kernel)
set_option maxRecDepth 20000 in
theorem gX6_plan_X6_fails : GoodIn wsX6_plan (wsV RX6 45 RX6 yX6_fails wsX6_fails) := goodIn_app (goodIn_of _ (by decide +kernel)) ggX6_plan_X6_fails
set_option maxRecDepth 20000 in
theorem ggX6_plan_X6_isPlace : GoodIn wsX6_plan wsX6_isPlace := goodIn_r _ [22, 23, 24, 6, 25, 8, 9, 10] (by decide +kernel) (by decide +kernel)
set_option maxRecDepth 20000 in
theorem gX6_plan_X6_isPlace : GoodIn wsX6_plan (va_wsS RX6 192 yX6_isPlace wsX6_isPlace) := goodIn_app (goodIn_of _ (by decide +kernel)) ggX6_plan_X6_isPlace
set_option maxRecDepth 20000 in
theorem ggX6_plan_X6_breaksNew : GoodIn wsX6_plan wsX6_breaksNew := goodIn_ca (goodIn_r _ [29, 30, 31, 32, 6, 33, 2, 34, 35, 36, 37, 38, 39, 40, 41, 42, 43, 44, 45, 46, 47, 48, 49, 50, 51, 52, 53, 54, 55, 56, 57, 58, 59, 60, 61, 62, 63, 64, 65, 66, 67, 68, 69, 70, 71, 72, 73, 74, 1, 75, 76, 77, 78, 79, 80, 81, 82, 83, 84, 85, 86, 87, 88, 89, 90, 91, 92, 93, 94, 95, 96, 97, 98, 99, 100, 101, 102, 103, 104, 105, 106, 107, 108, 109, 110, 111, 112, 113, 114, 115, 116, 117, 118, 8, 9, 10, 119, 120, 121, 122, 123, 124, 125, 126, 127, 128, 129, 130, 155, 156, 157, 158, 159, 160, 161, 162, 163, 164, 165, 166, 167, 168, 169, 170, 171, 172, 173, 174, 175, 176, 177, 178, 179, 180, 181] (by decide +kernel) (by decide +kernel)) (goodIn_sub (fun _ h => List.mem_cons_of_mem _ (List.mem_append_right _ h)) (by decide +kernel))
set_option maxRecDepth 20000 in
theorem gX6_plan_X6_breaksNew : GoodIn wsX6_plan (wsV RX6 195 RX6 yX6_breaksNew wsX6_breaksNew) := goodIn_app (goodIn_of _ (by decide +kernel)) ggX6_plan_X6_breaksNew
set_option maxRecDepth 20000 in
theorem ggX6_plan_X6_refuses : GoodIn wsX6_plan wsX6_refuses := goodIn_r _ [134, 135, 136, 15, 16, 17, 6, 18, 19, 155, 156, 157, 158, 159, 160, 161, 162, 163, 164, 165, 166, 167, 168, 169, 170, 171, 172, 173, 174, 175, 176, 177, 178, 179, 180, 181] (by decide +kernel) (by decide +kernel)
set_option maxRecDepth 20000 in
theorem gX6_plan_X6_refuses : GoodIn wsX6_plan (wsV RX6 199 RX6 yX6_refuses wsX6_refuses) := goodIn_app (goodIn_of _ (by decide +kernel)) ggX6_plan_X6_refuses
set_option maxRecDepth 20000 in
theorem ggX6_plan_X6_remembers : GoodIn wsX6_plan wsX6_remembers := goodIn_ca (goodIn_r _ [140, 141, 2, 142, 143, 144, 6, 145, 146, 147, 148, 149, 150, 155, 156, 157, 158, 159, 160, 161, 162, 163, 164, 165, 166, 167, 168, 169, 170, 171, 172, 173, 174, 175, 176, 177, 178, 179, 180, 181] (by decide +kernel) (by decide +kernel)) (goodIn_sub (fun _ h => List.mem_cons_of_mem _ (List.mem_append_right _ h)) (by decide +kernel))
set_option maxRecDepth 20000 in
theorem gX6_plan_X6_remembers : GoodIn wsX6_plan (wsV RX6 68 RX6 yX6_remembers wsX6_remembers) := goodIn_app (goodIn_of _ (by decide +kernel)) ggX6_plan_X6_remembers
set_option maxRecDepth 20000 in
theorem ggX6_plan_X6_bestReel : GoodIn wsX6_plan wsX6_bestReel := goodIn_ca (goodIn_r _ [33, 2, 34, 35, 36, 6, 37, 38, 39, 40, 41, 42, 43, 44, 45, 46, 47, 48, 49, 50, 51, 52, 53, 54, 55, 56, 57, 58, 59, 60, 155, 156, 157, 158, 159, 160, 161, 162, 163, 164, 165, 166, 167, 168, 169, 170, 171, 172, 173, 174, 175, 176, 177, 178, 179, 180, 181] (by decide +kernel) (by decide +kernel)) (goodIn_sub (fun _ h => List.mem_cons_of_mem _ (List.mem_append_right _ h)) (by decide +kernel))
set_option maxRecDepth 20000 in
theorem gX6_plan_X6_bestReel : GoodIn wsX6_plan (wsV RX6 130 RX6 yX6_bestReel wsX6_bestReel) := goodIn_app (goodIn_of _ (by decide +kernel)) ggX6_plan_X6_bestReel
set_option maxRecDepth 20000 in
theorem ggX6_plan_X6_lengthOf : GoodIn wsX6_plan wsX6_lengthOf := goodIn_ca (goodIn_r _ [56, 2, 38, 39, 40, 6, 41, 155, 156, 157, 158, 159, 160, 161, 162, 163, 164, 165, 166, 167, 168, 169, 170, 171, 172, 173, 174, 175, 176, 177, 178, 179, 180, 181] (by decide +kernel) (by decide +kernel)) (goodIn_sub (fun _ h => List.mem_cons_of_mem _ (List.mem_append_right _ h)) (by decide +kernel))
set_option maxRecDepth 20000 in
theorem gX6_plan_X6_lengthOf : GoodIn wsX6_plan (wsV RX6 119 RX6 yX6_lengthOf wsX6_lengthOf) := goodIn_app (goodIn_of _ (by decide +kernel)) ggX6_plan_X6_lengthOf
set_option maxRecDepth 20000 in
theorem ggX6_plan_X6_done : GoodIn wsX6_plan wsX6_done := goodIn_r _ [154, 19, 155, 156, 157, 158, 159, 160, 161, 162, 163, 164, 165, 166, 167, 168, 169, 170, 171, 172, 173, 174, 175, 176, 177, 178, 179, 180, 181] (by decide +kernel) (by decide +kernel)
set_option maxRecDepth 20000 in
theorem gX6_plan_X6_done : GoodIn wsX6_plan (wsV RX6 71 RX6 yX6_done wsX6_done) := goodIn_app (goodIn_of _ (by decide +kernel)) ggX6_plan_X6_done
theorem dX6_plan_0 : decode cX6_plan 0 = .ok (.aload_n 0, 1) := by decide +kernel
theorem dX6_plan_1 : decode cX6_plan 1 = .ok (.iload_n 1, 1) := by decide +kernel
theorem dX6_plan_2 : decode cX6_plan 2 = .ok (.invokevirtual 104, 3) := by decide +kernel
theorem dX6_plan_5 : decode cX6_plan 5 = .ok (.ifCond .eq 11, 3) := by decide +kernel
theorem dX6_plan_8 : decode cX6_plan 8 = .ok (.aload_n 0, 1) := by decide +kernel
theorem dX6_plan_9 : decode cX6_plan 9 = .ok (.iload_n 2, 1) := by decide +kernel
theorem dX6_plan_10 : decode cX6_plan 10 = .ok (.invokevirtual 78, 3) := by decide +kernel
theorem dX6_plan_13 : decode cX6_plan 13 = .ok (.ifCond .ne 9, 3) := by decide +kernel
theorem dX6_plan_16 : decode cX6_plan 16 = .ok (.aload_n 0, 1) := by decide +kernel
theorem dX6_plan_17 : decode cX6_plan 17 = .ok (.iconst 1, 1) := by decide +kernel
theorem dX6_plan_18 : decode cX6_plan 18 = .ok (.invokevirtual 45, 3) := by decide +kernel
theorem dX6_plan_21 : decode cX6_plan 21 = .ok (.ireturn, 1) := by decide +kernel
theorem dX6_plan_22 : decode cX6_plan 22 = .ok (.iload_n 3, 1) := by decide +kernel
theorem dX6_plan_23 : decode cX6_plan 23 = .ok (.iload 4, 2) := by decide +kernel
theorem dX6_plan_25 : decode cX6_plan 25 = .ok (.invokestatic 192, 3) := by decide +kernel
theorem dX6_plan_28 : decode cX6_plan 28 = .ok (.ifCond .ne 9, 3) := by decide +kernel
theorem dX6_plan_31 : decode cX6_plan 31 = .ok (.aload_n 0, 1) := by decide +kernel
theorem dX6_plan_32 : decode cX6_plan 32 = .ok (.iconst 2, 1) := by decide +kernel
theorem dX6_plan_33 : decode cX6_plan 33 = .ok (.invokevirtual 45, 3) := by decide +kernel
theorem dX6_plan_36 : decode cX6_plan 36 = .ok (.ireturn, 1) := by decide +kernel
theorem dX6_plan_37 : decode cX6_plan 37 = .ok (.aload_n 0, 1) := by decide +kernel
theorem dX6_plan_38 : decode cX6_plan 38 = .ok (.iload_n 1, 1) := by decide +kernel
theorem dX6_plan_39 : decode cX6_plan 39 = .ok (.iload_n 2, 1) := by decide +kernel
theorem dX6_plan_40 : decode cX6_plan 40 = .ok (.iload_n 3, 1) := by decide +kernel
theorem dX6_plan_41 : decode cX6_plan 41 = .ok (.iload 4, 2) := by decide +kernel
theorem dX6_plan_43 : decode cX6_plan 43 = .ok (.invokevirtual 195, 3) := by decide +kernel
theorem dX6_plan_46 : decode cX6_plan 46 = .ok (.istore 5, 2) := by decide +kernel
theorem dX6_plan_48 : decode cX6_plan 48 = .ok (.iload 5, 2) := by decide +kernel
theorem dX6_plan_50 : decode cX6_plan 50 = .ok (.ifCond .eq 15, 3) := by decide +kernel
theorem dX6_plan_53 : decode cX6_plan 53 = .ok (.aload_n 0, 1) := by decide +kernel
theorem dX6_plan_54 : decode cX6_plan 54 = .ok (.iload 5, 2) := by decide +kernel
theorem dX6_plan_56 : decode cX6_plan 56 = .ok (.aload_n 0, 1) := by decide +kernel
theorem dX6_plan_57 : decode cX6_plan 57 = .ok (.getfield 166, 3) := by decide +kernel
theorem dX6_plan_60 : decode cX6_plan 60 = .ok (.iconst 3, 1) := by decide +kernel
theorem dX6_plan_61 : decode cX6_plan 61 = .ok (.invokevirtual 199, 3) := by decide +kernel
theorem dX6_plan_64 : decode cX6_plan 64 = .ok (.ireturn, 1) := by decide +kernel
theorem dX6_plan_65 : decode cX6_plan 65 = .ok (.aload_n 0, 1) := by decide +kernel
theorem dX6_plan_66 : decode cX6_plan 66 = .ok (.getfield 9, 3) := by decide +kernel
theorem dX6_plan_69 : decode cX6_plan 69 = .ok (.iconst 4, 1) := by decide +kernel
theorem dX6_plan_70 : decode cX6_plan 70 = .ok (.iaload, 1) := by decide +kernel
theorem dX6_plan_71 : decode cX6_plan 71 = .ok (.bipush 30, 2) := by decide +kernel
theorem dX6_plan_73 : decode cX6_plan 73 = .ok (.if_icmp .ne 13, 3) := by decide +kernel
theorem dX6_plan_76 : decode cX6_plan 76 = .ok (.aload_n 0, 1) := by decide +kernel
theorem dX6_plan_77 : decode cX6_plan 77 = .ok (.bipush 10, 2) := by decide +kernel
theorem dX6_plan_79 : decode cX6_plan 79 = .ok (.bipush 30, 2) := by decide +kernel
theorem dX6_plan_81 : decode cX6_plan 81 = .ok (.iconst 3, 1) := by decide +kernel
theorem dX6_plan_82 : decode cX6_plan 82 = .ok (.invokevirtual 199, 3) := by decide +kernel
theorem dX6_plan_85 : decode cX6_plan 85 = .ok (.ireturn, 1) := by decide +kernel
theorem dX6_plan_86 : decode cX6_plan 86 = .ok (.aload_n 0, 1) := by decide +kernel
theorem dX6_plan_87 : decode cX6_plan 87 = .ok (.invokevirtual 68, 3) := by decide +kernel
theorem dX6_plan_90 : decode cX6_plan 90 = .ok (.aload_n 0, 1) := by decide +kernel
theorem dX6_plan_91 : decode cX6_plan 91 = .ok (.getfield 9, 3) := by decide +kernel
theorem dX6_plan_94 : decode cX6_plan 94 = .ok (.iconst 4, 1) := by decide +kernel
theorem dX6_plan_95 : decode cX6_plan 95 = .ok (.iaload, 1) := by decide +kernel
theorem dX6_plan_96 : decode cX6_plan 96 = .ok (.istore 6, 2) := by decide +kernel
theorem dX6_plan_98 : decode cX6_plan 98 = .ok (.sipush 158, 3) := by decide +kernel
theorem dX6_plan_101 : decode cX6_plan 101 = .ok (.bipush 9, 2) := by decide +kernel
theorem dX6_plan_103 : decode cX6_plan 103 = .ok (.iload 6, 2) := by decide +kernel
theorem dX6_plan_105 : decode cX6_plan 105 = .ok (.imul, 1) := by decide +kernel
theorem dX6_plan_106 : decode cX6_plan 106 = .ok (.iadd, 1) := by decide +kernel
theorem dX6_plan_107 : decode cX6_plan 107 = .ok (.istore 7, 2) := by decide +kernel
theorem dX6_plan_109 : decode cX6_plan 109 = .ok (.aload_n 0, 1) := by decide +kernel
theorem dX6_plan_110 : decode cX6_plan 110 = .ok (.iload_n 2, 1) := by decide +kernel
theorem dX6_plan_111 : decode cX6_plan 111 = .ok (.iload_n 3, 1) := by decide +kernel
theorem dX6_plan_112 : decode cX6_plan 112 = .ok (.invokevirtual 130, 3) := by decide +kernel
theorem dX6_plan_115 : decode cX6_plan 115 = .ok (.istore 8, 2) := by decide +kernel
theorem dX6_plan_117 : decode cX6_plan 117 = .ok (.aload_n 0, 1) := by decide +kernel
theorem dX6_plan_118 : decode cX6_plan 118 = .ok (.getfield 9, 3) := by decide +kernel
theorem dX6_plan_121 : decode cX6_plan 121 = .ok (.iload 7, 2) := by decide +kernel
theorem dX6_plan_123 : decode cX6_plan 123 = .ok (.iconst 0, 1) := by decide +kernel
theorem dX6_plan_124 : decode cX6_plan 124 = .ok (.iadd, 1) := by decide +kernel
theorem dX6_plan_125 : decode cX6_plan 125 = .ok (.iload_n 1, 1) := by decide +kernel
theorem dX6_plan_126 : decode cX6_plan 126 = .ok (.iastore, 1) := by decide +kernel
theorem dX6_plan_127 : decode cX6_plan 127 = .ok (.aload_n 0, 1) := by decide +kernel
theorem dX6_plan_128 : decode cX6_plan 128 = .ok (.getfield 9, 3) := by decide +kernel
theorem dX6_plan_131 : decode cX6_plan 131 = .ok (.iload 7, 2) := by decide +kernel
theorem dX6_plan_133 : decode cX6_plan 133 = .ok (.iconst 1, 1) := by decide +kernel
theorem dX6_plan_134 : decode cX6_plan 134 = .ok (.iadd, 1) := by decide +kernel
theorem dX6_plan_135 : decode cX6_plan 135 = .ok (.iload_n 2, 1) := by decide +kernel
theorem dX6_plan_136 : decode cX6_plan 136 = .ok (.iastore, 1) := by decide +kernel
theorem dX6_plan_137 : decode cX6_plan 137 = .ok (.aload_n 0, 1) := by decide +kernel
theorem dX6_plan_138 : decode cX6_plan 138 = .ok (.getfield 9, 3) := by decide +kernel
theorem dX6_plan_141 : decode cX6_plan 141 = .ok (.iload 7, 2) := by decide +kernel
theorem dX6_plan_143 : decode cX6_plan 143 = .ok (.iconst 2, 1) := by decide +kernel
theorem dX6_plan_144 : decode cX6_plan 144 = .ok (.iadd, 1) := by decide +kernel
theorem dX6_plan_145 : decode cX6_plan 145 = .ok (.iload_n 3, 1) := by decide +kernel
theorem dX6_plan_146 : decode cX6_plan 146 = .ok (.iastore, 1) := by decide +kernel
theorem dX6_plan_147 : decode cX6_plan 147 = .ok (.aload_n 0, 1) := by decide +kernel
theorem dX6_plan_148 : decode cX6_plan 148 = .ok (.getfield 9, 3) := by decide +kernel
theorem dX6_plan_151 : decode cX6_plan 151 = .ok (.iload 7, 2) := by decide +kernel
theorem dX6_plan_153 : decode cX6_plan 153 = .ok (.iconst 3, 1) := by decide +kernel
theorem dX6_plan_154 : decode cX6_plan 154 = .ok (.iadd, 1) := by decide +kernel
theorem dX6_plan_155 : decode cX6_plan 155 = .ok (.iload 4, 2) := by decide +kernel
theorem dX6_plan_157 : decode cX6_plan 157 = .ok (.iastore, 1) := by decide +kernel
theorem dX6_plan_158 : decode cX6_plan 158 = .ok (.aload_n 0, 1) := by decide +kernel
theorem dX6_plan_159 : decode cX6_plan 159 = .ok (.getfield 9, 3) := by decide +kernel
theorem dX6_plan_162 : decode cX6_plan 162 = .ok (.iload 7, 2) := by decide +kernel
theorem dX6_plan_164 : decode cX6_plan 164 = .ok (.iconst 4, 1) := by decide +kernel
theorem dX6_plan_165 : decode cX6_plan 165 = .ok (.iadd, 1) := by decide +kernel
theorem dX6_plan_166 : decode cX6_plan 166 = .ok (.iload 8, 2) := by decide +kernel
theorem dX6_plan_168 : decode cX6_plan 168 = .ok (.iastore, 1) := by decide +kernel
theorem dX6_plan_169 : decode cX6_plan 169 = .ok (.aload_n 0, 1) := by decide +kernel
theorem dX6_plan_170 : decode cX6_plan 170 = .ok (.getfield 9, 3) := by decide +kernel
theorem dX6_plan_173 : decode cX6_plan 173 = .ok (.iload 7, 2) := by decide +kernel
theorem dX6_plan_175 : decode cX6_plan 175 = .ok (.iconst 5, 1) := by decide +kernel
theorem dX6_plan_176 : decode cX6_plan 176 = .ok (.iadd, 1) := by decide +kernel
theorem dX6_plan_177 : decode cX6_plan 177 = .ok (.aload_n 0, 1) := by decide +kernel
theorem dX6_plan_178 : decode cX6_plan 178 = .ok (.iload 8, 2) := by decide +kernel
theorem dX6_plan_180 : decode cX6_plan 180 = .ok (.invokevirtual 119, 3) := by decide +kernel
theorem dX6_plan_183 : decode cX6_plan 183 = .ok (.iastore, 1) := by decide +kernel
theorem dX6_plan_184 : decode cX6_plan 184 = .ok (.aload_n 0, 1) := by decide +kernel
theorem dX6_plan_185 : decode cX6_plan 185 = .ok (.getfield 9, 3) := by decide +kernel
theorem dX6_plan_188 : decode cX6_plan 188 = .ok (.iload 7, 2) := by decide +kernel
theorem dX6_plan_190 : decode cX6_plan 190 = .ok (.bipush 6, 2) := by decide +kernel
theorem dX6_plan_192 : decode cX6_plan 192 = .ok (.iadd, 1) := by decide +kernel
theorem dX6_plan_193 : decode cX6_plan 193 = .ok (.aload_n 0, 1) := by decide +kernel
theorem dX6_plan_194 : decode cX6_plan 194 = .ok (.getfield 9, 3) := by decide +kernel
theorem dX6_plan_197 : decode cX6_plan 197 = .ok (.bipush 13, 2) := by decide +kernel
theorem dX6_plan_199 : decode cX6_plan 199 = .ok (.iaload, 1) := by decide +kernel
theorem dX6_plan_200 : decode cX6_plan 200 = .ok (.iastore, 1) := by decide +kernel
theorem dX6_plan_201 : decode cX6_plan 201 = .ok (.aload_n 0, 1) := by decide +kernel
theorem dX6_plan_202 : decode cX6_plan 202 = .ok (.getfield 9, 3) := by decide +kernel
theorem dX6_plan_205 : decode cX6_plan 205 = .ok (.iload 7, 2) := by decide +kernel
theorem dX6_plan_207 : decode cX6_plan 207 = .ok (.bipush 7, 2) := by decide +kernel
theorem dX6_plan_209 : decode cX6_plan 209 = .ok (.iadd, 1) := by decide +kernel
theorem dX6_plan_210 : decode cX6_plan 210 = .ok (.iconst 0, 1) := by decide +kernel
theorem dX6_plan_211 : decode cX6_plan 211 = .ok (.iastore, 1) := by decide +kernel
theorem dX6_plan_212 : decode cX6_plan 212 = .ok (.aload_n 0, 1) := by decide +kernel
theorem dX6_plan_213 : decode cX6_plan 213 = .ok (.getfield 9, 3) := by decide +kernel
theorem dX6_plan_216 : decode cX6_plan 216 = .ok (.iload 7, 2) := by decide +kernel
theorem dX6_plan_218 : decode cX6_plan 218 = .ok (.bipush 8, 2) := by decide +kernel
theorem dX6_plan_220 : decode cX6_plan 220 = .ok (.iadd, 1) := by decide +kernel
theorem dX6_plan_221 : decode cX6_plan 221 = .ok (.iconst 0, 1) := by decide +kernel
theorem dX6_plan_222 : decode cX6_plan 222 = .ok (.iastore, 1) := by decide +kernel
theorem dX6_plan_223 : decode cX6_plan 223 = .ok (.aload_n 0, 1) := by decide +kernel
theorem dX6_plan_224 : decode cX6_plan 224 = .ok (.getfield 9, 3) := by decide +kernel
theorem dX6_plan_227 : decode cX6_plan 227 = .ok (.iconst 4, 1) := by decide +kernel
theorem dX6_plan_228 : decode cX6_plan 228 = .ok (.dup2, 1) := by decide +kernel
theorem dX6_plan_229 : decode cX6_plan 229 = .ok (.iaload, 1) := by decide +kernel
theorem dX6_plan_230 : decode cX6_plan 230 = .ok (.iconst 1, 1) := by decide +kernel
theorem dX6_plan_231 : decode cX6_plan 231 = .ok (.iadd, 1) := by decide +kernel
theorem dX6_plan_232 : decode cX6_plan 232 = .ok (.iastore, 1) := by decide +kernel
theorem dX6_plan_233 : decode cX6_plan 233 = .ok (.aload_n 0, 1) := by decide +kernel
theorem dX6_plan_234 : decode cX6_plan 234 = .ok (.iload 6, 2) := by decide +kernel
theorem dX6_plan_236 : decode cX6_plan 236 = .ok (.invokevirtual 71, 3) := by decide +kernel
theorem dX6_plan_239 : decode cX6_plan 239 = .ok (.ireturn, 1) := by decide +kernel
set_option maxRecDepth 20000 in
theorem ggX6_move_X6_isShow : GoodIn wsX6_move wsX6_isShow := goodIn_ca (goodIn_r _ [7, 2, 8, 9, 6, 10, 122, 123, 124, 125, 126, 127, 128, 129, 130, 131, 132, 133, 134, 135, 136, 137, 138, 139, 140, 141, 142, 143, 144, 145, 146, 147, 148] (by decide +kernel) (by decide +kernel)) (goodIn_sub (fun _ h => List.mem_cons_of_mem _ (List.mem_append_right _ h)) (by decide +kernel))
set_option maxRecDepth 20000 in
theorem gX6_move_X6_isShow : GoodIn wsX6_move (wsV RX6 203 RX6 yX6_isShow wsX6_isShow) := goodIn_app (goodIn_of _ (by decide +kernel)) ggX6_move_X6_isShow
set_option maxRecDepth 20000 in
theorem ggX6_move_X6_isHall : GoodIn wsX6_move wsX6_isHall := goodIn_ca (goodIn_r _ [14, 2, 8, 9, 6, 10, 122, 123, 124, 125, 126, 127, 128, 129, 130, 131, 132, 133, 134, 135, 136, 137, 138, 139, 140, 141, 142, 143, 144, 145, 146, 147, 148] (by decide +kernel) (by decide +kernel)) (goodIn_sub (fun _ h => List.mem_cons_of_mem _ (List.mem_append_right _ h)) (by decide +kernel))
set_option maxRecDepth 20000 in
theorem gX6_move_X6_isHall : GoodIn wsX6_move (wsV RX6 104 RX6 yX6_isHall wsX6_isHall) := goodIn_app (goodIn_of _ (by decide +kernel)) ggX6_move_X6_isHall
set_option maxRecDepth 20000 in
theorem ggX6_move_X6_fails : GoodIn wsX6_move wsX6_fails := goodIn_r _ [18, 19, 122, 123, 124, 125, 126, 127, 128, 129, 130, 131, 132, 133, 134, 135, 136, 137, 138, 139, 140, 141, 142, 143, 144, 145, 146, 147, 148] (by decide +kernel) (by decide +kernel)
set_option maxRecDepth 20000 in
theorem gX6_move_X6_fails : GoodIn wsX6_move (wsV RX6 45 RX6 yX6_fails wsX6_fails) := goodIn_app (goodIn_of _ (by decide +kernel)) ggX6_move_X6_fails
set_option maxRecDepth 20000 in
theorem ggX6_move_X6_in : GoodIn wsX6_move wsX6_in := goodIn_r _ [10] (by decide +kernel) (by decide +kernel)
set_option maxRecDepth 20000 in
theorem gX6_move_X6_in : GoodIn wsX6_move (va_wsS RX6 64 yX6_in wsX6_in) := goodIn_app (goodIn_of _ (by decide +kernel)) ggX6_move_X6_in
set_option maxRecDepth 20000 in
theorem ggX6_move_X6_stands : GoodIn wsX6_move wsX6_stands := goodIn_ca (goodIn_r _ [23, 24, 25, 26, 6, 27, 2, 122, 123, 124, 125, 126, 127, 128, 129, 130, 131, 132, 133, 134, 135, 136, 137, 138, 139, 140, 141, 142, 143, 144, 145, 146, 147, 148] (by decide +kernel) (by decide +kernel)) (goodIn_sub (fun _ h => List.mem_cons_of_mem _ (List.mem_append_right _ h)) (by decide +kernel))
set_option maxRecDepth 20000 in
theorem gX6_move_X6_stands : GoodIn wsX6_move (wsV RX6 107 RX6 yX6_stands wsX6_stands) := goodIn_app (goodIn_of _ (by decide +kernel)) ggX6_move_X6_stands
set_option maxRecDepth 20000 in
theorem ggX6_move_X6_isOver : GoodIn wsX6_move wsX6_isOver := goodIn_ca (goodIn_r _ [31, 2, 24, 25, 26, 6, 27, 122, 123, 124, 125, 126, 127, 128, 129, 130, 131, 132, 133, 134, 135, 136, 137, 138, 139, 140, 141, 142, 143, 144, 145, 146, 147, 148] (by decide +kernel) (by decide +kernel)) (goodIn_sub (fun _ h => List.mem_cons_of_mem _ (List.mem_append_right _ h)) (by decide +kernel))
set_option maxRecDepth 20000 in
theorem gX6_move_X6_isOver : GoodIn wsX6_move (wsV RX6 206 RX6 yX6_isOver wsX6_isOver) := goodIn_app (goodIn_of _ (by decide +kernel)) ggX6_move_X6_isOver
set_option maxRecDepth 20000 in
theorem ggX6_move_X6_hallAt : GoodIn wsX6_move wsX6_hallAt := goodIn_ca (goodIn_r _ [35, 2, 122, 123, 124, 125, 126, 127, 128, 129, 130, 131, 132, 133, 134, 135, 136, 137, 138, 139, 140, 141, 142, 143, 144, 145, 146, 147, 148] (by decide +kernel) (by decide +kernel)) (goodIn_sub (fun _ h => List.mem_cons_of_mem _ (List.mem_append_right _ h)) (by decide +kernel))
set_option maxRecDepth 20000 in
theorem gX6_move_X6_hallAt : GoodIn wsX6_move (wsV RX6 95 RX6 yX6_hallAt wsX6_hallAt) := goodIn_app (goodIn_of _ (by decide +kernel)) ggX6_move_X6_hallAt
set_option maxRecDepth 20000 in
theorem ggX6_move_X6_showAt : GoodIn wsX6_move wsX6_showAt := goodIn_ca (goodIn_r _ [27, 2, 122, 123, 124, 125, 126, 127, 128, 129, 130, 131, 132, 133, 134, 135, 136, 137, 138, 139, 140, 141, 142, 143, 144, 145, 146, 147, 148] (by decide +kernel) (by decide +kernel)) (goodIn_sub (fun _ h => List.mem_cons_of_mem _ (List.mem_append_right _ h)) (by decide +kernel))
set_option maxRecDepth 20000 in
theorem gX6_move_X6_showAt : GoodIn wsX6_move (wsV RX6 89 RX6 yX6_showAt wsX6_showAt) := goodIn_app (goodIn_of _ (by decide +kernel)) ggX6_move_X6_showAt
set_option maxRecDepth 20000 in
theorem ggX6_move_X6_refuses : GoodIn wsX6_move wsX6_refuses := goodIn_r _ [39, 40, 41, 15, 16, 17, 6, 18, 19, 122, 123, 124, 125, 126, 127, 128, 129, 130, 131, 132, 133, 134, 135, 136, 137, 138, 139, 140, 141, 142, 143, 144, 145, 146, 147, 148] (by decide +kernel) (by decide +kernel)
set_option maxRecDepth 20000 in
theorem gX6_move_X6_refuses : GoodIn wsX6_move (wsV RX6 199 RX6 yX6_refuses wsX6_refuses) := goodIn_app (goodIn_of _ (by decide +kernel)) ggX6_move_X6_refuses
set_option maxRecDepth 20000 in
theorem ggX6_move_X6_minutesOf : GoodIn wsX6_move wsX6_minutesOf := goodIn_ca (goodIn_r _ [45, 24, 25, 26, 6, 27, 2, 46, 47, 48, 49, 122, 123, 124, 125, 126, 127, 128, 129, 130, 131, 132, 133, 134, 135, 136, 137, 138, 139, 140, 141, 142, 143, 144, 145, 146, 147, 148] (by decide +kernel) (by decide +kernel)) (goodIn_sub (fun _ h => List.mem_cons_of_mem _ (List.mem_append_right _ h)) (by decide +kernel))
set_option maxRecDepth 20000 in
theorem gX6_move_X6_minutesOf : GoodIn wsX6_move (wsV RX6 92 RX6 yX6_minutesOf wsX6_minutesOf) := goodIn_app (goodIn_of _ (by decide +kernel)) ggX6_move_X6_minutesOf
set_option maxRecDepth 20000 in
theorem ggX6_move_X6_breaks : GoodIn wsX6_move wsX6_breaks := goodIn_ca (goodIn_r _ [53, 54, 55, 56, 57, 58, 59, 2, 60, 61, 62, 6, 63, 1, 64, 65, 66, 67, 32, 33, 34, 35, 46, 47, 48, 49, 68, 69, 70, 71, 72, 73, 74, 75, 20, 21, 22, 23, 24, 25, 26, 27, 76, 77, 78, 79, 42, 43, 44, 45, 80, 81, 82, 83, 84, 85, 86, 87, 88, 89, 90, 91, 8, 9, 10, 92, 93, 94, 95, 96, 97, 98, 99, 100, 101, 102, 103, 122, 123, 124, 125, 126, 127, 128, 129, 130, 131, 132, 133, 134, 135, 136, 137, 138, 139, 140, 141, 142, 143, 144, 145, 146, 147, 148] (by decide +kernel) (by decide +kernel)) (goodIn_sub (fun _ h => List.mem_cons_of_mem _ (List.mem_append_right _ h)) (by decide +kernel))
set_option maxRecDepth 20000 in
theorem gX6_move_X6_breaks : GoodIn wsX6_move (wsV RX6 188 RX6 yX6_breaks wsX6_breaks) := goodIn_app (goodIn_of _ (by decide +kernel)) ggX6_move_X6_breaks
set_option maxRecDepth 20000 in
theorem ggX6_move_X6_remembers : GoodIn wsX6_move wsX6_remembers := goodIn_ca (goodIn_r _ [107, 108, 2, 109, 110, 111, 6, 112, 113, 114, 115, 116, 117, 122, 123, 124, 125, 126, 127, 128, 129, 130, 131, 132, 133, 134, 135, 136, 137, 138, 139, 140, 141, 142, 143, 144, 145, 146, 147, 148] (by decide +kernel) (by decide +kernel)) (goodIn_sub (fun _ h => List.mem_cons_of_mem _ (List.mem_append_right _ h)) (by decide +kernel))
set_option maxRecDepth 20000 in
theorem gX6_move_X6_remembers : GoodIn wsX6_move (wsV RX6 68 RX6 yX6_remembers wsX6_remembers) := goodIn_app (goodIn_of _ (by decide +kernel)) ggX6_move_X6_remembers
set_option maxRecDepth 20000 in
theorem ggX6_move_X6_done : GoodIn wsX6_move wsX6_done := goodIn_r _ [121, 19, 122, 123, 124, 125, 126, 127, 128, 129, 130, 131, 132, 133, 134, 135, 136, 137, 138, 139, 140, 141, 142, 143, 144, 145, 146, 147, 148] (by decide +kernel) (by decide +kernel)
set_option maxRecDepth 20000 in
theorem gX6_move_X6_done : GoodIn wsX6_move (wsV RX6 71 RX6 yX6_done wsX6_done) := goodIn_app (goodIn_of _ (by decide +kernel)) ggX6_move_X6_done
theorem dX6_move_0 : decode cX6_move 0 = .ok (.aload_n 0, 1) := by decide +kernel
theorem dX6_move_1 : decode cX6_move 1 = .ok (.iload_n 1, 1) := by decide +kernel
theorem dX6_move_2 : decode cX6_move 2 = .ok (.invokevirtual 203, 3) := by decide +kernel
theorem dX6_move_5 : decode cX6_move 5 = .ok (.ifCond .eq 11, 3) := by decide +kernel
theorem dX6_move_8 : decode cX6_move 8 = .ok (.aload_n 0, 1) := by decide +kernel
theorem dX6_move_9 : decode cX6_move 9 = .ok (.iload_n 2, 1) := by decide +kernel
theorem dX6_move_10 : decode cX6_move 10 = .ok (.invokevirtual 104, 3) := by decide +kernel
theorem dX6_move_13 : decode cX6_move 13 = .ok (.ifCond .ne 9, 3) := by decide +kernel
theorem dX6_move_16 : decode cX6_move 16 = .ok (.aload_n 0, 1) := by decide +kernel
theorem dX6_move_17 : decode cX6_move 17 = .ok (.iconst 1, 1) := by decide +kernel
theorem dX6_move_18 : decode cX6_move 18 = .ok (.invokevirtual 45, 3) := by decide +kernel
theorem dX6_move_21 : decode cX6_move 21 = .ok (.ireturn, 1) := by decide +kernel
theorem dX6_move_22 : decode cX6_move 22 = .ok (.iload_n 3, 1) := by decide +kernel
theorem dX6_move_23 : decode cX6_move 23 = .ok (.iconst 0, 1) := by decide +kernel
theorem dX6_move_24 : decode cX6_move 24 = .ok (.sipush 959, 3) := by decide +kernel
theorem dX6_move_27 : decode cX6_move 27 = .ok (.invokestatic 64, 3) := by decide +kernel
theorem dX6_move_30 : decode cX6_move 30 = .ok (.ifCond .ne 9, 3) := by decide +kernel
theorem dX6_move_33 : decode cX6_move 33 = .ok (.aload_n 0, 1) := by decide +kernel
theorem dX6_move_34 : decode cX6_move 34 = .ok (.iconst 2, 1) := by decide +kernel
theorem dX6_move_35 : decode cX6_move 35 = .ok (.invokevirtual 45, 3) := by decide +kernel
theorem dX6_move_38 : decode cX6_move 38 = .ok (.ireturn, 1) := by decide +kernel
theorem dX6_move_39 : decode cX6_move 39 = .ok (.aload_n 0, 1) := by decide +kernel
theorem dX6_move_40 : decode cX6_move 40 = .ok (.iload_n 1, 1) := by decide +kernel
theorem dX6_move_41 : decode cX6_move 41 = .ok (.invokevirtual 107, 3) := by decide +kernel
theorem dX6_move_44 : decode cX6_move 44 = .ok (.ifCond .eq 11, 3) := by decide +kernel
theorem dX6_move_47 : decode cX6_move 47 = .ok (.aload_n 0, 1) := by decide +kernel
theorem dX6_move_48 : decode cX6_move 48 = .ok (.iload_n 1, 1) := by decide +kernel
theorem dX6_move_49 : decode cX6_move 49 = .ok (.invokevirtual 206, 3) := by decide +kernel
theorem dX6_move_52 : decode cX6_move 52 = .ok (.ifCond .eq 9, 3) := by decide +kernel
theorem dX6_move_55 : decode cX6_move 55 = .ok (.aload_n 0, 1) := by decide +kernel
theorem dX6_move_56 : decode cX6_move 56 = .ok (.iconst 3, 1) := by decide +kernel
theorem dX6_move_57 : decode cX6_move 57 = .ok (.invokevirtual 45, 3) := by decide +kernel
theorem dX6_move_60 : decode cX6_move 60 = .ok (.ireturn, 1) := by decide +kernel
theorem dX6_move_61 : decode cX6_move 61 = .ok (.aload_n 0, 1) := by decide +kernel
theorem dX6_move_62 : decode cX6_move 62 = .ok (.iload_n 2, 1) := by decide +kernel
theorem dX6_move_63 : decode cX6_move 63 = .ok (.iconst 0, 1) := by decide +kernel
theorem dX6_move_64 : decode cX6_move 64 = .ok (.invokevirtual 95, 3) := by decide +kernel
theorem dX6_move_67 : decode cX6_move 67 = .ok (.aload_n 0, 1) := by decide +kernel
theorem dX6_move_68 : decode cX6_move 68 = .ok (.iload_n 1, 1) := by decide +kernel
theorem dX6_move_69 : decode cX6_move 69 = .ok (.bipush 7, 2) := by decide +kernel
theorem dX6_move_71 : decode cX6_move 71 = .ok (.invokevirtual 89, 3) := by decide +kernel
theorem dX6_move_74 : decode cX6_move 74 = .ok (.if_icmp .ge 17, 3) := by decide +kernel
theorem dX6_move_77 : decode cX6_move 77 = .ok (.aload_n 0, 1) := by decide +kernel
theorem dX6_move_78 : decode cX6_move 78 = .ok (.bipush 11, 2) := by decide +kernel
theorem dX6_move_80 : decode cX6_move 80 = .ok (.aload_n 0, 1) := by decide +kernel
theorem dX6_move_81 : decode cX6_move 81 = .ok (.iload_n 2, 1) := by decide +kernel
theorem dX6_move_82 : decode cX6_move 82 = .ok (.iconst 0, 1) := by decide +kernel
theorem dX6_move_83 : decode cX6_move 83 = .ok (.invokevirtual 95, 3) := by decide +kernel
theorem dX6_move_86 : decode cX6_move 86 = .ok (.iconst 4, 1) := by decide +kernel
theorem dX6_move_87 : decode cX6_move 87 = .ok (.invokevirtual 199, 3) := by decide +kernel
theorem dX6_move_90 : decode cX6_move 90 = .ok (.ireturn, 1) := by decide +kernel
theorem dX6_move_91 : decode cX6_move 91 = .ok (.aload_n 0, 1) := by decide +kernel
theorem dX6_move_92 : decode cX6_move 92 = .ok (.iload_n 2, 1) := by decide +kernel
theorem dX6_move_93 : decode cX6_move 93 = .ok (.aload_n 0, 1) := by decide +kernel
theorem dX6_move_94 : decode cX6_move 94 = .ok (.iload_n 1, 1) := by decide +kernel
theorem dX6_move_95 : decode cX6_move 95 = .ok (.iconst 1, 1) := by decide +kernel
theorem dX6_move_96 : decode cX6_move 96 = .ok (.invokevirtual 89, 3) := by decide +kernel
theorem dX6_move_99 : decode cX6_move 99 = .ok (.aload_n 0, 1) := by decide +kernel
theorem dX6_move_100 : decode cX6_move 100 = .ok (.iload_n 1, 1) := by decide +kernel
theorem dX6_move_101 : decode cX6_move 101 = .ok (.iconst 2, 1) := by decide +kernel
theorem dX6_move_102 : decode cX6_move 102 = .ok (.invokevirtual 89, 3) := by decide +kernel
theorem dX6_move_105 : decode cX6_move 105 = .ok (.iload_n 3, 1) := by decide +kernel
theorem dX6_move_106 : decode cX6_move 106 = .ok (.aload_n 0, 1) := by decide +kernel
theorem dX6_move_107 : decode cX6_move 107 = .ok (.iload_n 1, 1) := by decide +kernel
theorem dX6_move_108 : decode cX6_move 108 = .ok (.invokevirtual 92, 3) := by decide +kernel
theorem dX6_move_111 : decode cX6_move 111 = .ok (.iload_n 1, 1) := by decide +kernel
theorem dX6_move_112 : decode cX6_move 112 = .ok (.invokevirtual 188, 3) := by decide +kernel
theorem dX6_move_115 : decode cX6_move 115 = .ok (.istore 4, 2) := by decide +kernel
theorem dX6_move_117 : decode cX6_move 117 = .ok (.iload 4, 2) := by decide +kernel
theorem dX6_move_119 : decode cX6_move 119 = .ok (.ifCond .eq 15, 3) := by decide +kernel
theorem dX6_move_122 : decode cX6_move 122 = .ok (.aload_n 0, 1) := by decide +kernel
theorem dX6_move_123 : decode cX6_move 123 = .ok (.iload 4, 2) := by decide +kernel
theorem dX6_move_125 : decode cX6_move 125 = .ok (.aload_n 0, 1) := by decide +kernel
theorem dX6_move_126 : decode cX6_move 126 = .ok (.getfield 166, 3) := by decide +kernel
theorem dX6_move_129 : decode cX6_move 129 = .ok (.iconst 4, 1) := by decide +kernel
theorem dX6_move_130 : decode cX6_move 130 = .ok (.invokevirtual 199, 3) := by decide +kernel
theorem dX6_move_133 : decode cX6_move 133 = .ok (.ireturn, 1) := by decide +kernel
theorem dX6_move_134 : decode cX6_move 134 = .ok (.aload_n 0, 1) := by decide +kernel
theorem dX6_move_135 : decode cX6_move 135 = .ok (.invokevirtual 68, 3) := by decide +kernel
theorem dX6_move_138 : decode cX6_move 138 = .ok (.iload_n 3, 1) := by decide +kernel
theorem dX6_move_139 : decode cX6_move 139 = .ok (.aload_n 0, 1) := by decide +kernel
theorem dX6_move_140 : decode cX6_move 140 = .ok (.iload_n 1, 1) := by decide +kernel
theorem dX6_move_141 : decode cX6_move 141 = .ok (.iconst 3, 1) := by decide +kernel
theorem dX6_move_142 : decode cX6_move 142 = .ok (.invokevirtual 89, 3) := by decide +kernel
theorem dX6_move_145 : decode cX6_move 145 = .ok (.isub, 1) := by decide +kernel
theorem dX6_move_146 : decode cX6_move 146 = .ok (.istore 5, 2) := by decide +kernel
theorem dX6_move_148 : decode cX6_move 148 = .ok (.aload_n 0, 1) := by decide +kernel
theorem dX6_move_149 : decode cX6_move 149 = .ok (.getfield 9, 3) := by decide +kernel
theorem dX6_move_152 : decode cX6_move 152 = .ok (.sipush 158, 3) := by decide +kernel
theorem dX6_move_155 : decode cX6_move 155 = .ok (.bipush 9, 2) := by decide +kernel
theorem dX6_move_157 : decode cX6_move 157 = .ok (.iload_n 1, 1) := by decide +kernel
theorem dX6_move_158 : decode cX6_move 158 = .ok (.imul, 1) := by decide +kernel
theorem dX6_move_159 : decode cX6_move 159 = .ok (.iadd, 1) := by decide +kernel
theorem dX6_move_160 : decode cX6_move 160 = .ok (.iconst 0, 1) := by decide +kernel
theorem dX6_move_161 : decode cX6_move 161 = .ok (.iadd, 1) := by decide +kernel
theorem dX6_move_162 : decode cX6_move 162 = .ok (.iload_n 2, 1) := by decide +kernel
theorem dX6_move_163 : decode cX6_move 163 = .ok (.iastore, 1) := by decide +kernel
theorem dX6_move_164 : decode cX6_move 164 = .ok (.aload_n 0, 1) := by decide +kernel
theorem dX6_move_165 : decode cX6_move 165 = .ok (.getfield 9, 3) := by decide +kernel
theorem dX6_move_168 : decode cX6_move 168 = .ok (.sipush 158, 3) := by decide +kernel
theorem dX6_move_171 : decode cX6_move 171 = .ok (.bipush 9, 2) := by decide +kernel
theorem dX6_move_173 : decode cX6_move 173 = .ok (.iload_n 1, 1) := by decide +kernel
theorem dX6_move_174 : decode cX6_move 174 = .ok (.imul, 1) := by decide +kernel
theorem dX6_move_175 : decode cX6_move 175 = .ok (.iadd, 1) := by decide +kernel
theorem dX6_move_176 : decode cX6_move 176 = .ok (.iconst 3, 1) := by decide +kernel
theorem dX6_move_177 : decode cX6_move 177 = .ok (.iadd, 1) := by decide +kernel
theorem dX6_move_178 : decode cX6_move 178 = .ok (.iload_n 3, 1) := by decide +kernel
theorem dX6_move_179 : decode cX6_move 179 = .ok (.iastore, 1) := by decide +kernel
theorem dX6_move_180 : decode cX6_move 180 = .ok (.aload_n 0, 1) := by decide +kernel
theorem dX6_move_181 : decode cX6_move 181 = .ok (.iload 5, 2) := by decide +kernel
theorem dX6_move_183 : decode cX6_move 183 = .ok (.ifCond .ge 9, 3) := by decide +kernel
theorem dX6_move_186 : decode cX6_move 186 = .ok (.iload 5, 2) := by decide +kernel
theorem dX6_move_188 : decode cX6_move 188 = .ok (.ineg, 1) := by decide +kernel
theorem dX6_move_189 : decode cX6_move 189 = .ok (.goto 5, 3) := by decide +kernel
theorem dX6_move_192 : decode cX6_move 192 = .ok (.iload 5, 2) := by decide +kernel
theorem dX6_move_194 : decode cX6_move 194 = .ok (.invokevirtual 71, 3) := by decide +kernel
theorem dX6_move_197 : decode cX6_move 197 = .ok (.ireturn, 1) := by decide +kernel
set_option maxRecDepth 20000 in
theorem ggX6_cancels_X6_showAt : GoodIn wsX6_cancels wsX6_showAt := goodIn_ca (goodIn_r _ [6, 1, 7, 8, 9, 10, 11, 12, 13, 14, 15, 16, 17, 18, 19, 20, 21, 22, 23, 24, 25, 26, 27, 28, 29, 30, 31, 32, 33] (by decide +kernel) (by decide +kernel)) (goodIn_sub (fun _ h => List.mem_cons_of_mem _ (List.mem_append_right _ h)) (by decide +kernel))
set_option maxRecDepth 20000 in
theorem gX6_cancels_X6_showAt : GoodIn wsX6_cancels (wsV RX6 89 RX6 yX6_showAt wsX6_showAt) := goodIn_app (goodIn_of _ (by decide +kernel)) ggX6_cancels_X6_showAt
theorem dX6_cancels_0 : decode cX6_cancels 0 = .ok (.aload_n 0, 1) := by decide +kernel
theorem dX6_cancels_1 : decode cX6_cancels 1 = .ok (.iload_n 1, 1) := by decide +kernel
theorem dX6_cancels_2 : decode cX6_cancels 2 = .ok (.bipush 7, 2) := by decide +kernel
theorem dX6_cancels_4 : decode cX6_cancels 4 = .ok (.invokevirtual 89, 3) := by decide +kernel
theorem dX6_cancels_7 : decode cX6_cancels 7 = .ok (.istore_n 2, 1) := by decide +kernel
theorem dX6_cancels_8 : decode cX6_cancels 8 = .ok (.aload_n 0, 1) := by decide +kernel
theorem dX6_cancels_9 : decode cX6_cancels 9 = .ok (.getfield 9, 3) := by decide +kernel
theorem dX6_cancels_12 : decode cX6_cancels 12 = .ok (.sipush 158, 3) := by decide +kernel
theorem dX6_cancels_15 : decode cX6_cancels 15 = .ok (.bipush 9, 2) := by decide +kernel
theorem dX6_cancels_17 : decode cX6_cancels 17 = .ok (.iload_n 1, 1) := by decide +kernel
theorem dX6_cancels_18 : decode cX6_cancels 18 = .ok (.imul, 1) := by decide +kernel
theorem dX6_cancels_19 : decode cX6_cancels 19 = .ok (.iadd, 1) := by decide +kernel
theorem dX6_cancels_20 : decode cX6_cancels 20 = .ok (.bipush 8, 2) := by decide +kernel
theorem dX6_cancels_22 : decode cX6_cancels 22 = .ok (.iadd, 1) := by decide +kernel
theorem dX6_cancels_23 : decode cX6_cancels 23 = .ok (.iconst 1, 1) := by decide +kernel
theorem dX6_cancels_24 : decode cX6_cancels 24 = .ok (.iastore, 1) := by decide +kernel
theorem dX6_cancels_25 : decode cX6_cancels 25 = .ok (.aload_n 0, 1) := by decide +kernel
theorem dX6_cancels_26 : decode cX6_cancels 26 = .ok (.getfield 9, 3) := by decide +kernel
theorem dX6_cancels_29 : decode cX6_cancels 29 = .ok (.sipush 158, 3) := by decide +kernel
theorem dX6_cancels_32 : decode cX6_cancels 32 = .ok (.bipush 9, 2) := by decide +kernel
theorem dX6_cancels_34 : decode cX6_cancels 34 = .ok (.iload_n 1, 1) := by decide +kernel
theorem dX6_cancels_35 : decode cX6_cancels 35 = .ok (.imul, 1) := by decide +kernel
theorem dX6_cancels_36 : decode cX6_cancels 36 = .ok (.iadd, 1) := by decide +kernel
theorem dX6_cancels_37 : decode cX6_cancels 37 = .ok (.bipush 7, 2) := by decide +kernel
theorem dX6_cancels_39 : decode cX6_cancels 39 = .ok (.iadd, 1) := by decide +kernel
theorem dX6_cancels_40 : decode cX6_cancels 40 = .ok (.iconst 0, 1) := by decide +kernel
theorem dX6_cancels_41 : decode cX6_cancels 41 = .ok (.iastore, 1) := by decide +kernel
theorem dX6_cancels_42 : decode cX6_cancels 42 = .ok (.aload_n 0, 1) := by decide +kernel
theorem dX6_cancels_43 : decode cX6_cancels 43 = .ok (.getfield 9, 3) := by decide +kernel
theorem dX6_cancels_46 : decode cX6_cancels 46 = .ok (.iconst 5, 1) := by decide +kernel
theorem dX6_cancels_47 : decode cX6_cancels 47 = .ok (.dup2, 1) := by decide +kernel
theorem dX6_cancels_48 : decode cX6_cancels 48 = .ok (.iaload, 1) := by decide +kernel
theorem dX6_cancels_49 : decode cX6_cancels 49 = .ok (.iload_n 2, 1) := by decide +kernel
theorem dX6_cancels_50 : decode cX6_cancels 50 = .ok (.iadd, 1) := by decide +kernel
theorem dX6_cancels_51 : decode cX6_cancels 51 = .ok (.iastore, 1) := by decide +kernel
theorem dX6_cancels_52 : decode cX6_cancels 52 = .ok (.iload_n 2, 1) := by decide +kernel
theorem dX6_cancels_53 : decode cX6_cancels 53 = .ok (.ireturn, 1) := by decide +kernel
set_option maxRecDepth 20000 in
theorem ggX6_cancel_X6_isShow : GoodIn wsX6_cancel wsX6_isShow := goodIn_ca (goodIn_r _ [5, 6, 7, 8, 4, 9, 49, 50, 51, 52, 53, 54, 55, 56, 57, 58, 59, 60, 61, 62, 63, 64, 65, 66, 67, 68, 69, 70, 71, 72, 73, 74, 75] (by decide +kernel) (by decide +kernel)) (goodIn_sub (fun _ h => List.mem_cons_of_mem _ (List.mem_append_right _ h)) (by decide +kernel))
set_option maxRecDepth 20000 in
theorem gX6_cancel_X6_isShow : GoodIn wsX6_cancel (wsV RX6 203 RX6 yX6_isShow wsX6_isShow) := goodIn_app (goodIn_of _ (by decide +kernel)) ggX6_cancel_X6_isShow
set_option maxRecDepth 20000 in
theorem ggX6_cancel_X6_fails : GoodIn wsX6_cancel wsX6_fails := goodIn_r _ [13, 14, 49, 50, 51, 52, 53, 54, 55, 56, 57, 58, 59, 60, 61, 62, 63, 64, 65, 66, 67, 68, 69, 70, 71, 72, 73, 74, 75] (by decide +kernel) (by decide +kernel)
set_option maxRecDepth 20000 in
theorem gX6_cancel_X6_fails : GoodIn wsX6_cancel (wsV RX6 45 RX6 yX6_fails wsX6_fails) := goodIn_app (goodIn_of _ (by decide +kernel)) ggX6_cancel_X6_fails
set_option maxRecDepth 20000 in
theorem ggX6_cancel_X6_stands : GoodIn wsX6_cancel wsX6_stands := goodIn_ca (goodIn_r _ [18, 19, 20, 21, 4, 22, 6, 49, 50, 51, 52, 53, 54, 55, 56, 57, 58, 59, 60, 61, 62, 63, 64, 65, 66, 67, 68, 69, 70, 71, 72, 73, 74, 75] (by decide +kernel) (by decide +kernel)) (goodIn_sub (fun _ h => List.mem_cons_of_mem _ (List.mem_append_right _ h)) (by decide +kernel))
set_option maxRecDepth 20000 in
theorem gX6_cancel_X6_stands : GoodIn wsX6_cancel (wsV RX6 107 RX6 yX6_stands wsX6_stands) := goodIn_app (goodIn_of _ (by decide +kernel)) ggX6_cancel_X6_stands
set_option maxRecDepth 20000 in
theorem ggX6_cancel_X6_isOver : GoodIn wsX6_cancel wsX6_isOver := goodIn_ca (goodIn_r _ [26, 6, 19, 20, 21, 4, 22, 49, 50, 51, 52, 53, 54, 55, 56, 57, 58, 59, 60, 61, 62, 63, 64, 65, 66, 67, 68, 69, 70, 71, 72, 73, 74, 75] (by decide +kernel) (by decide +kernel)) (goodIn_sub (fun _ h => List.mem_cons_of_mem _ (List.mem_append_right _ h)) (by decide +kernel))
set_option maxRecDepth 20000 in
theorem gX6_cancel_X6_isOver : GoodIn wsX6_cancel (wsV RX6 206 RX6 yX6_isOver wsX6_isOver) := goodIn_app (goodIn_of _ (by decide +kernel)) ggX6_cancel_X6_isOver
set_option maxRecDepth 20000 in
theorem ggX6_cancel_X6_remembers : GoodIn wsX6_cancel wsX6_remembers := goodIn_ca (goodIn_r _ [30, 31, 6, 32, 33, 34, 4, 35, 36, 37, 38, 39, 40, 49, 50, 51, 52, 53, 54, 55, 56, 57, 58, 59, 60, 61, 62, 63, 64, 65, 66, 67, 68, 69, 70, 71, 72, 73, 74, 75] (by decide +kernel) (by decide +kernel)) (goodIn_sub (fun _ h => List.mem_cons_of_mem _ (List.mem_append_right _ h)) (by decide +kernel))
set_option maxRecDepth 20000 in
theorem gX6_cancel_X6_remembers : GoodIn wsX6_cancel (wsV RX6 68 RX6 yX6_remembers wsX6_remembers) := goodIn_app (goodIn_of _ (by decide +kernel)) ggX6_cancel_X6_remembers
set_option maxRecDepth 20000 in
theorem ggX6_cancel_X6_cancels : GoodIn wsX6_cancel wsX6_cancels := goodIn_ca (goodIn_r _ [44, 6, 19, 20, 21, 4, 22, 49, 50, 51, 52, 53, 54, 55, 56, 57, 58, 59, 60, 61, 62, 63, 64, 65, 66, 67, 68, 69, 70, 71, 72, 73, 74, 75] (by decide +kernel) (by decide +kernel)) (goodIn_sub (fun _ h => List.mem_cons_of_mem _ (List.mem_append_right _ h)) (by decide +kernel))
set_option maxRecDepth 20000 in
theorem gX6_cancel_X6_cancels : GoodIn wsX6_cancel (wsV RX6 209 RX6 yX6_cancels wsX6_cancels) := goodIn_app (goodIn_of _ (by decide +kernel)) ggX6_cancel_X6_cancels
set_option maxRecDepth 20000 in
theorem ggX6_cancel_X6_done : GoodIn wsX6_cancel wsX6_done := goodIn_r _ [48, 14, 49, 50, 51, 52, 53, 54, 55, 56, 57, 58, 59, 60, 61, 62, 63, 64, 65, 66, 67, 68, 69, 70, 71, 72, 73, 74, 75] (by decide +kernel) (by decide +kernel)
set_option maxRecDepth 20000 in
theorem gX6_cancel_X6_done : GoodIn wsX6_cancel (wsV RX6 71 RX6 yX6_done wsX6_done) := goodIn_app (goodIn_of _ (by decide +kernel)) ggX6_cancel_X6_done
theorem dX6_cancel_0 : decode cX6_cancel 0 = .ok (.aload_n 0, 1) := by decide +kernel
theorem dX6_cancel_1 : decode cX6_cancel 1 = .ok (.iload_n 1, 1) := by decide +kernel
theorem dX6_cancel_2 : decode cX6_cancel 2 = .ok (.invokevirtual 203, 3) := by decide +kernel
theorem dX6_cancel_5 : decode cX6_cancel 5 = .ok (.ifCond .ne 9, 3) := by decide +kernel
theorem dX6_cancel_8 : decode cX6_cancel 8 = .ok (.aload_n 0, 1) := by decide +kernel
theorem dX6_cancel_9 : decode cX6_cancel 9 = .ok (.iconst 1, 1) := by decide +kernel
theorem dX6_cancel_10 : decode cX6_cancel 10 = .ok (.invokevirtual 45, 3) := by decide +kernel
theorem dX6_cancel_13 : decode cX6_cancel 13 = .ok (.ireturn, 1) := by decide +kernel
theorem dX6_cancel_14 : decode cX6_cancel 14 = .ok (.aload_n 0, 1) := by decide +kernel
theorem dX6_cancel_15 : decode cX6_cancel 15 = .ok (.iload_n 1, 1) := by decide +kernel
theorem dX6_cancel_16 : decode cX6_cancel 16 = .ok (.invokevirtual 107, 3) := by decide +kernel
theorem dX6_cancel_19 : decode cX6_cancel 19 = .ok (.ifCond .eq 11, 3) := by decide +kernel
theorem dX6_cancel_22 : decode cX6_cancel 22 = .ok (.aload_n 0, 1) := by decide +kernel
theorem dX6_cancel_23 : decode cX6_cancel 23 = .ok (.iload_n 1, 1) := by decide +kernel
theorem dX6_cancel_24 : decode cX6_cancel 24 = .ok (.invokevirtual 206, 3) := by decide +kernel
theorem dX6_cancel_27 : decode cX6_cancel 27 = .ok (.ifCond .eq 9, 3) := by decide +kernel
theorem dX6_cancel_30 : decode cX6_cancel 30 = .ok (.aload_n 0, 1) := by decide +kernel
theorem dX6_cancel_31 : decode cX6_cancel 31 = .ok (.iconst 2, 1) := by decide +kernel
theorem dX6_cancel_32 : decode cX6_cancel 32 = .ok (.invokevirtual 45, 3) := by decide +kernel
theorem dX6_cancel_35 : decode cX6_cancel 35 = .ok (.ireturn, 1) := by decide +kernel
theorem dX6_cancel_36 : decode cX6_cancel 36 = .ok (.aload_n 0, 1) := by decide +kernel
theorem dX6_cancel_37 : decode cX6_cancel 37 = .ok (.invokevirtual 68, 3) := by decide +kernel
theorem dX6_cancel_40 : decode cX6_cancel 40 = .ok (.aload_n 0, 1) := by decide +kernel
theorem dX6_cancel_41 : decode cX6_cancel 41 = .ok (.aload_n 0, 1) := by decide +kernel
theorem dX6_cancel_42 : decode cX6_cancel 42 = .ok (.iload_n 1, 1) := by decide +kernel
theorem dX6_cancel_43 : decode cX6_cancel 43 = .ok (.invokevirtual 209, 3) := by decide +kernel
theorem dX6_cancel_46 : decode cX6_cancel 46 = .ok (.invokevirtual 71, 3) := by decide +kernel
theorem dX6_cancel_49 : decode cX6_cancel 49 = .ok (.ireturn, 1) := by decide +kernel
set_option maxRecDepth 20000 in
theorem ggX6_sell_X6_isShow : GoodIn wsX6_sell wsX6_isShow := goodIn_ca (goodIn_r _ [6, 1, 7, 8, 5, 9, 55, 56, 57, 58, 59, 60, 61, 62, 63, 64, 65, 66, 67, 68, 69, 70, 71, 72, 73, 74, 75, 76, 77, 78, 79, 80, 81] (by decide +kernel) (by decide +kernel)) (goodIn_sub (fun _ h => List.mem_cons_of_mem _ (List.mem_append_right _ h)) (by decide +kernel))
set_option maxRecDepth 20000 in
theorem gX6_sell_X6_isShow : GoodIn wsX6_sell (wsV RX6 203 RX6 yX6_isShow wsX6_isShow) := goodIn_app (goodIn_of _ (by decide +kernel)) ggX6_sell_X6_isShow
set_option maxRecDepth 20000 in
theorem ggX6_sell_X6_fails : GoodIn wsX6_sell wsX6_fails := goodIn_r _ [13, 14, 55, 56, 57, 58, 59, 60, 61, 62, 63, 64, 65, 66, 67, 68, 69, 70, 71, 72, 73, 74, 75, 76, 77, 78, 79, 80, 81] (by decide +kernel) (by decide +kernel)
set_option maxRecDepth 20000 in
theorem gX6_sell_X6_fails : GoodIn wsX6_sell (wsV RX6 45 RX6 yX6_fails wsX6_fails) := goodIn_app (goodIn_of _ (by decide +kernel)) ggX6_sell_X6_fails
set_option maxRecDepth 20000 in
theorem ggX6_sell_X6_in : GoodIn wsX6_sell wsX6_in := goodIn_r _ [9] (by decide +kernel) (by decide +kernel)
set_option maxRecDepth 20000 in
theorem gX6_sell_X6_in : GoodIn wsX6_sell (va_wsS RX6 64 yX6_in wsX6_in) := goodIn_app (goodIn_of _ (by decide +kernel)) ggX6_sell_X6_in
set_option maxRecDepth 20000 in
theorem ggX6_sell_X6_stands : GoodIn wsX6_sell wsX6_stands := goodIn_ca (goodIn_r _ [18, 19, 20, 21, 5, 22, 1, 55, 56, 57, 58, 59, 60, 61, 62, 63, 64, 65, 66, 67, 68, 69, 70, 71, 72, 73, 74, 75, 76, 77, 78, 79, 80, 81] (by decide +kernel) (by decide +kernel)) (goodIn_sub (fun _ h => List.mem_cons_of_mem _ (List.mem_append_right _ h)) (by decide +kernel))
set_option maxRecDepth 20000 in
theorem gX6_sell_X6_stands : GoodIn wsX6_sell (wsV RX6 107 RX6 yX6_stands wsX6_stands) := goodIn_app (goodIn_of _ (by decide +kernel)) ggX6_sell_X6_stands
set_option maxRecDepth 20000 in
theorem ggX6_sell_X6_isOver : GoodIn wsX6_sell wsX6_isOver := goodIn_ca (goodIn_r _ [26, 1, 19, 20, 21, 5, 22, 55, 56, 57, 58, 59, 60, 61, 62, 63, 64, 65, 66, 67, 68, 69, 70, 71, 72, 73, 74, 75, 76, 77, 78, 79, 80, 81] (by decide +kernel) (by decide +kernel)) (goodIn_sub (fun _ h => List.mem_cons_of_mem _ (List.mem_append_right _ h)) (by decide +kernel))
set_option maxRecDepth 20000 in
theorem gX6_sell_X6_isOver : GoodIn wsX6_sell (wsV RX6 206 RX6 yX6_isOver wsX6_isOver) := goodIn_app (goodIn_of _ (by decide +kernel)) ggX6_sell_X6_isOver
set_option maxRecDepth 20000 in
theorem ggX6_sell_X6_showAt : GoodIn wsX6_sell wsX6_showAt := goodIn_ca (goodIn_r _ [22, 1, 55, 56, 57, 58, 59, 60, 61, 62, 63, 64, 65, 66, 67, 68, 69, 70, 71, 72, 73, 74, 75, 76, 77, 78, 79, 80, 81] (by decide +kernel) (by decide +kernel)) (goodIn_sub (fun _ h => List.mem_cons_of_mem _ (List.mem_append_right _ h)) (by decide +kernel))
set_option maxRecDepth 20000 in
theorem gX6_sell_X6_showAt : GoodIn wsX6_sell (wsV RX6 89 RX6 yX6_showAt wsX6_showAt) := goodIn_app (goodIn_of _ (by decide +kernel)) ggX6_sell_X6_showAt
set_option maxRecDepth 20000 in
theorem ggX6_sell_X6_hallAt : GoodIn wsX6_sell wsX6_hallAt := goodIn_ca (goodIn_r _ [30, 1, 55, 56, 57, 58, 59, 60, 61, 62, 63, 64, 65, 66, 67, 68, 69, 70, 71, 72, 73, 74, 75, 76, 77, 78, 79, 80, 81] (by decide +kernel) (by decide +kernel)) (goodIn_sub (fun _ h => List.mem_cons_of_mem _ (List.mem_append_right _ h)) (by decide +kernel))
set_option maxRecDepth 20000 in
theorem gX6_sell_X6_hallAt : GoodIn wsX6_sell (wsV RX6 95 RX6 yX6_hallAt wsX6_hallAt) := goodIn_app (goodIn_of _ (by decide +kernel)) ggX6_sell_X6_hallAt
set_option maxRecDepth 20000 in
theorem ggX6_sell_X6_refuses : GoodIn wsX6_sell wsX6_refuses := goodIn_r _ [34, 35, 36, 10, 11, 12, 5, 13, 14, 55, 56, 57, 58, 59, 60, 61, 62, 63, 64, 65, 66, 67, 68, 69, 70, 71, 72, 73, 74, 75, 76, 77, 78, 79, 80, 81] (by decide +kernel) (by decide +kernel)
set_option maxRecDepth 20000 in
theorem gX6_sell_X6_refuses : GoodIn wsX6_sell (wsV RX6 199 RX6 yX6_refuses wsX6_refuses) := goodIn_app (goodIn_of _ (by decide +kernel)) ggX6_sell_X6_refuses
set_option maxRecDepth 20000 in
theorem ggX6_sell_X6_remembers : GoodIn wsX6_sell wsX6_remembers := goodIn_ca (goodIn_r _ [40, 41, 1, 42, 43, 44, 5, 45, 46, 47, 48, 49, 50, 55, 56, 57, 58, 59, 60, 61, 62, 63, 64, 65, 66, 67, 68, 69, 70, 71, 72, 73, 74, 75, 76, 77, 78, 79, 80, 81] (by decide +kernel) (by decide +kernel)) (goodIn_sub (fun _ h => List.mem_cons_of_mem _ (List.mem_append_right _ h)) (by decide +kernel))
set_option maxRecDepth 20000 in
theorem gX6_sell_X6_remembers : GoodIn wsX6_sell (wsV RX6 68 RX6 yX6_remembers wsX6_remembers) := goodIn_app (goodIn_of _ (by decide +kernel)) ggX6_sell_X6_remembers
set_option maxRecDepth 20000 in
theorem ggX6_sell_X6_done : GoodIn wsX6_sell wsX6_done := goodIn_r _ [54, 14, 55, 56, 57, 58, 59, 60, 61, 62, 63, 64, 65, 66, 67, 68, 69, 70, 71, 72, 73, 74, 75, 76, 77, 78, 79, 80, 81] (by decide +kernel) (by decide +kernel)
set_option maxRecDepth 20000 in
theorem gX6_sell_X6_done : GoodIn wsX6_sell (wsV RX6 71 RX6 yX6_done wsX6_done) := goodIn_app (goodIn_of _ (by decide +kernel)) ggX6_sell_X6_done
theorem dX6_sell_0 : decode cX6_sell 0 = .ok (.aload_n 0, 1) := by decide +kernel
theorem dX6_sell_1 : decode cX6_sell 1 = .ok (.iload_n 1, 1) := by decide +kernel
theorem dX6_sell_2 : decode cX6_sell 2 = .ok (.invokevirtual 203, 3) := by decide +kernel
theorem dX6_sell_5 : decode cX6_sell 5 = .ok (.ifCond .ne 9, 3) := by decide +kernel
theorem dX6_sell_8 : decode cX6_sell 8 = .ok (.aload_n 0, 1) := by decide +kernel
theorem dX6_sell_9 : decode cX6_sell 9 = .ok (.iconst 1, 1) := by decide +kernel
theorem dX6_sell_10 : decode cX6_sell 10 = .ok (.invokevirtual 45, 3) := by decide +kernel
theorem dX6_sell_13 : decode cX6_sell 13 = .ok (.ireturn, 1) := by decide +kernel
theorem dX6_sell_14 : decode cX6_sell 14 = .ok (.iload_n 2, 1) := by decide +kernel
theorem dX6_sell_15 : decode cX6_sell 15 = .ok (.iconst 1, 1) := by decide +kernel
theorem dX6_sell_16 : decode cX6_sell 16 = .ok (.sipush 400, 3) := by decide +kernel
theorem dX6_sell_19 : decode cX6_sell 19 = .ok (.invokestatic 64, 3) := by decide +kernel
theorem dX6_sell_22 : decode cX6_sell 22 = .ok (.ifCond .ne 9, 3) := by decide +kernel
theorem dX6_sell_25 : decode cX6_sell 25 = .ok (.aload_n 0, 1) := by decide +kernel
theorem dX6_sell_26 : decode cX6_sell 26 = .ok (.iconst 2, 1) := by decide +kernel
theorem dX6_sell_27 : decode cX6_sell 27 = .ok (.invokevirtual 45, 3) := by decide +kernel
theorem dX6_sell_30 : decode cX6_sell 30 = .ok (.ireturn, 1) := by decide +kernel
theorem dX6_sell_31 : decode cX6_sell 31 = .ok (.aload_n 0, 1) := by decide +kernel
theorem dX6_sell_32 : decode cX6_sell 32 = .ok (.iload_n 1, 1) := by decide +kernel
theorem dX6_sell_33 : decode cX6_sell 33 = .ok (.invokevirtual 107, 3) := by decide +kernel
theorem dX6_sell_36 : decode cX6_sell 36 = .ok (.ifCond .eq 11, 3) := by decide +kernel
theorem dX6_sell_39 : decode cX6_sell 39 = .ok (.aload_n 0, 1) := by decide +kernel
theorem dX6_sell_40 : decode cX6_sell 40 = .ok (.iload_n 1, 1) := by decide +kernel
theorem dX6_sell_41 : decode cX6_sell 41 = .ok (.invokevirtual 206, 3) := by decide +kernel
theorem dX6_sell_44 : decode cX6_sell 44 = .ok (.ifCond .eq 9, 3) := by decide +kernel
theorem dX6_sell_47 : decode cX6_sell 47 = .ok (.aload_n 0, 1) := by decide +kernel
theorem dX6_sell_48 : decode cX6_sell 48 = .ok (.iconst 3, 1) := by decide +kernel
theorem dX6_sell_49 : decode cX6_sell 49 = .ok (.invokevirtual 45, 3) := by decide +kernel
theorem dX6_sell_52 : decode cX6_sell 52 = .ok (.ireturn, 1) := by decide +kernel
theorem dX6_sell_53 : decode cX6_sell 53 = .ok (.aload_n 0, 1) := by decide +kernel
theorem dX6_sell_54 : decode cX6_sell 54 = .ok (.aload_n 0, 1) := by decide +kernel
theorem dX6_sell_55 : decode cX6_sell 55 = .ok (.iload_n 1, 1) := by decide +kernel
theorem dX6_sell_56 : decode cX6_sell 56 = .ok (.iconst 0, 1) := by decide +kernel
theorem dX6_sell_57 : decode cX6_sell 57 = .ok (.invokevirtual 89, 3) := by decide +kernel
theorem dX6_sell_60 : decode cX6_sell 60 = .ok (.iconst 0, 1) := by decide +kernel
theorem dX6_sell_61 : decode cX6_sell 61 = .ok (.invokevirtual 95, 3) := by decide +kernel
theorem dX6_sell_64 : decode cX6_sell 64 = .ok (.aload_n 0, 1) := by decide +kernel
theorem dX6_sell_65 : decode cX6_sell 65 = .ok (.iload_n 1, 1) := by decide +kernel
theorem dX6_sell_66 : decode cX6_sell 66 = .ok (.bipush 7, 2) := by decide +kernel
theorem dX6_sell_68 : decode cX6_sell 68 = .ok (.invokevirtual 89, 3) := by decide +kernel
theorem dX6_sell_71 : decode cX6_sell 71 = .ok (.isub, 1) := by decide +kernel
theorem dX6_sell_72 : decode cX6_sell 72 = .ok (.istore_n 3, 1) := by decide +kernel
theorem dX6_sell_73 : decode cX6_sell 73 = .ok (.iload_n 3, 1) := by decide +kernel
theorem dX6_sell_74 : decode cX6_sell 74 = .ok (.iload_n 2, 1) := by decide +kernel
theorem dX6_sell_75 : decode cX6_sell 75 = .ok (.if_icmp .ge 12, 3) := by decide +kernel
theorem dX6_sell_78 : decode cX6_sell 78 = .ok (.aload_n 0, 1) := by decide +kernel
theorem dX6_sell_79 : decode cX6_sell 79 = .ok (.bipush 12, 2) := by decide +kernel
theorem dX6_sell_81 : decode cX6_sell 81 = .ok (.iload_n 3, 1) := by decide +kernel
theorem dX6_sell_82 : decode cX6_sell 82 = .ok (.iconst 4, 1) := by decide +kernel
theorem dX6_sell_83 : decode cX6_sell 83 = .ok (.invokevirtual 199, 3) := by decide +kernel
theorem dX6_sell_86 : decode cX6_sell 86 = .ok (.ireturn, 1) := by decide +kernel
theorem dX6_sell_87 : decode cX6_sell 87 = .ok (.aload_n 0, 1) := by decide +kernel
theorem dX6_sell_88 : decode cX6_sell 88 = .ok (.invokevirtual 68, 3) := by decide +kernel
theorem dX6_sell_91 : decode cX6_sell 91 = .ok (.aload_n 0, 1) := by decide +kernel
theorem dX6_sell_92 : decode cX6_sell 92 = .ok (.getfield 9, 3) := by decide +kernel
theorem dX6_sell_95 : decode cX6_sell 95 = .ok (.sipush 158, 3) := by decide +kernel
theorem dX6_sell_98 : decode cX6_sell 98 = .ok (.bipush 9, 2) := by decide +kernel
theorem dX6_sell_100 : decode cX6_sell 100 = .ok (.iload_n 1, 1) := by decide +kernel
theorem dX6_sell_101 : decode cX6_sell 101 = .ok (.imul, 1) := by decide +kernel
theorem dX6_sell_102 : decode cX6_sell 102 = .ok (.iadd, 1) := by decide +kernel
theorem dX6_sell_103 : decode cX6_sell 103 = .ok (.bipush 7, 2) := by decide +kernel
theorem dX6_sell_105 : decode cX6_sell 105 = .ok (.iadd, 1) := by decide +kernel
theorem dX6_sell_106 : decode cX6_sell 106 = .ok (.dup2, 1) := by decide +kernel
theorem dX6_sell_107 : decode cX6_sell 107 = .ok (.iaload, 1) := by decide +kernel
theorem dX6_sell_108 : decode cX6_sell 108 = .ok (.iload_n 2, 1) := by decide +kernel
theorem dX6_sell_109 : decode cX6_sell 109 = .ok (.iadd, 1) := by decide +kernel
theorem dX6_sell_110 : decode cX6_sell 110 = .ok (.iastore, 1) := by decide +kernel
theorem dX6_sell_111 : decode cX6_sell 111 = .ok (.aload_n 0, 1) := by decide +kernel
theorem dX6_sell_112 : decode cX6_sell 112 = .ok (.aload_n 0, 1) := by decide +kernel
theorem dX6_sell_113 : decode cX6_sell 113 = .ok (.iload_n 1, 1) := by decide +kernel
theorem dX6_sell_114 : decode cX6_sell 114 = .ok (.bipush 7, 2) := by decide +kernel
theorem dX6_sell_116 : decode cX6_sell 116 = .ok (.invokevirtual 89, 3) := by decide +kernel
theorem dX6_sell_119 : decode cX6_sell 119 = .ok (.invokevirtual 71, 3) := by decide +kernel
theorem dX6_sell_122 : decode cX6_sell 122 = .ok (.ireturn, 1) := by decide +kernel
set_option maxRecDepth 20000 in
theorem ggX6_show_X6_isShow : GoodIn wsX6_show wsX6_isShow := goodIn_ca (goodIn_r _ [5, 6, 7, 8, 4, 9, 55, 56, 57, 58, 59, 60, 61, 62, 63, 64, 65, 66, 67, 68, 69, 70, 71, 72, 73, 74, 75, 76, 77, 78, 79, 80, 81] (by decide +kernel) (by decide +kernel)) (goodIn_sub (fun _ h => List.mem_cons_of_mem _ (List.mem_append_right _ h)) (by decide +kernel))
set_option maxRecDepth 20000 in
theorem gX6_show_X6_isShow : GoodIn wsX6_show (wsV RX6 203 RX6 yX6_isShow wsX6_isShow) := goodIn_app (goodIn_of _ (by decide +kernel)) ggX6_show_X6_isShow
set_option maxRecDepth 20000 in
theorem ggX6_show_X6_fails : GoodIn wsX6_show wsX6_fails := goodIn_r _ [13, 14, 55, 56, 57, 58, 59, 60, 61, 62, 63, 64, 65, 66, 67, 68, 69, 70, 71, 72, 73, 74, 75, 76, 77, 78, 79, 80, 81] (by decide +kernel) (by decide +kernel)
set_option maxRecDepth 20000 in
theorem gX6_show_X6_fails : GoodIn wsX6_show (wsV RX6 45 RX6 yX6_fails wsX6_fails) := goodIn_app (goodIn_of _ (by decide +kernel)) ggX6_show_X6_fails
set_option maxRecDepth 20000 in
theorem ggX6_show_X6_in : GoodIn wsX6_show wsX6_in := goodIn_r _ [9] (by decide +kernel) (by decide +kernel)
set_option maxRecDepth 20000 in
theorem gX6_show_X6_in : GoodIn wsX6_show (va_wsS RX6 64 yX6_in wsX6_in) := goodIn_app (goodIn_of _ (by decide +kernel)) ggX6_show_X6_in
set_option maxRecDepth 20000 in
theorem ggX6_show_X6_endOf : GoodIn wsX6_show wsX6_endOf := goodIn_ca (goodIn_r _ [18, 19, 20, 21, 4, 22, 6, 23, 24, 25, 26, 27, 28, 29, 30, 55, 56, 57, 58, 59, 60, 61, 62, 63, 64, 65, 66, 67, 68, 69, 70, 71, 72, 73, 74, 75, 76, 77, 78, 79, 80, 81] (by decide +kernel) (by decide +kernel)) (goodIn_sub (fun _ h => List.mem_cons_of_mem _ (List.mem_append_right _ h)) (by decide +kernel))
set_option maxRecDepth 20000 in
theorem gX6_show_X6_endOf : GoodIn wsX6_show (wsV RX6 151 RX6 yX6_endOf wsX6_endOf) := goodIn_app (goodIn_of _ (by decide +kernel)) ggX6_show_X6_endOf
set_option maxRecDepth 20000 in
theorem ggX6_show_X6_done : GoodIn wsX6_show wsX6_done := goodIn_r _ [34, 14, 55, 56, 57, 58, 59, 60, 61, 62, 63, 64, 65, 66, 67, 68, 69, 70, 71, 72, 73, 74, 75, 76, 77, 78, 79, 80, 81] (by decide +kernel) (by decide +kernel)
set_option maxRecDepth 20000 in
theorem gX6_show_X6_done : GoodIn wsX6_show (wsV RX6 71 RX6 yX6_done wsX6_done) := goodIn_app (goodIn_of _ (by decide +kernel)) ggX6_show_X6_done
set_option maxRecDepth 20000 in
theorem ggX6_show_X6_showAt : GoodIn wsX6_show wsX6_showAt := goodIn_ca (goodIn_r _ [22, 6, 55, 56, 57, 58, 59, 60, 61, 62, 63, 64, 65, 66, 67, 68, 69, 70, 71, 72, 73, 74, 75, 76, 77, 78, 79, 80, 81] (by decide +kernel) (by decide +kernel)) (goodIn_sub (fun _ h => List.mem_cons_of_mem _ (List.mem_append_right _ h)) (by decide +kernel))
set_option maxRecDepth 20000 in
theorem gX6_show_X6_showAt : GoodIn wsX6_show (wsV RX6 89 RX6 yX6_showAt wsX6_showAt) := goodIn_app (goodIn_of _ (by decide +kernel)) ggX6_show_X6_showAt
set_option maxRecDepth 20000 in
theorem ggX6_show_X6_stands : GoodIn wsX6_show wsX6_stands := goodIn_ca (goodIn_r _ [38, 19, 20, 21, 4, 22, 6, 55, 56, 57, 58, 59, 60, 61, 62, 63, 64, 65, 66, 67, 68, 69, 70, 71, 72, 73, 74, 75, 76, 77, 78, 79, 80, 81] (by decide +kernel) (by decide +kernel)) (goodIn_sub (fun _ h => List.mem_cons_of_mem _ (List.mem_append_right _ h)) (by decide +kernel))
set_option maxRecDepth 20000 in
theorem gX6_show_X6_stands : GoodIn wsX6_show (wsV RX6 107 RX6 yX6_stands wsX6_stands) := goodIn_app (goodIn_of _ (by decide +kernel)) ggX6_show_X6_stands
set_option maxRecDepth 20000 in
theorem ggX6_show_X6_isOver : GoodIn wsX6_show wsX6_isOver := goodIn_ca (goodIn_r _ [42, 6, 19, 20, 21, 4, 22, 55, 56, 57, 58, 59, 60, 61, 62, 63, 64, 65, 66, 67, 68, 69, 70, 71, 72, 73, 74, 75, 76, 77, 78, 79, 80, 81] (by decide +kernel) (by decide +kernel)) (goodIn_sub (fun _ h => List.mem_cons_of_mem _ (List.mem_append_right _ h)) (by decide +kernel))
set_option maxRecDepth 20000 in
theorem gX6_show_X6_isOver : GoodIn wsX6_show (wsV RX6 206 RX6 yX6_isOver wsX6_isOver) := goodIn_app (goodIn_of _ (by decide +kernel)) ggX6_show_X6_isOver
set_option maxRecDepth 20000 in
theorem ggX6_show_X6_receiptsOf : GoodIn wsX6_show wsX6_receiptsOf := goodIn_ca (goodIn_r _ [46, 19, 20, 21, 4, 22, 6, 55, 56, 57, 58, 59, 60, 61, 62, 63, 64, 65, 66, 67, 68, 69, 70, 71, 72, 73, 74, 75, 76, 77, 78, 79, 80, 81] (by decide +kernel) (by decide +kernel)) (goodIn_sub (fun _ h => List.mem_cons_of_mem _ (List.mem_append_right _ h)) (by decide +kernel))
set_option maxRecDepth 20000 in
theorem gX6_show_X6_receiptsOf : GoodIn wsX6_show (wsV RX6 98 RX6 yX6_receiptsOf wsX6_receiptsOf) := goodIn_app (goodIn_of _ (by decide +kernel)) ggX6_show_X6_receiptsOf
set_option maxRecDepth 20000 in
theorem ggX6_show_X6_partOf : GoodIn wsX6_show wsX6_partOf := goodIn_ca (goodIn_r _ [50, 43, 44, 45, 4, 46, 19, 20, 21, 22, 6, 51, 52, 53, 54, 27, 28, 29, 30, 55, 56, 57, 58, 59, 60, 61, 62, 63, 64, 65, 66, 67, 68, 69, 70, 71, 72, 73, 74, 75, 76, 77, 78, 79, 80, 81] (by decide +kernel) (by decide +kernel)) (goodIn_sub (fun _ h => List.mem_cons_of_mem _ (List.mem_append_right _ h)) (by decide +kernel))
set_option maxRecDepth 20000 in
theorem gX6_show_X6_partOf : GoodIn wsX6_show (wsV RX6 110 RX6 yX6_partOf wsX6_partOf) := goodIn_app (goodIn_of _ (by decide +kernel)) ggX6_show_X6_partOf
theorem dX6_show_0 : decode cX6_show 0 = .ok (.aload_n 0, 1) := by decide +kernel
theorem dX6_show_1 : decode cX6_show 1 = .ok (.iload_n 1, 1) := by decide +kernel
theorem dX6_show_2 : decode cX6_show 2 = .ok (.invokevirtual 203, 3) := by decide +kernel
theorem dX6_show_5 : decode cX6_show 5 = .ok (.ifCond .ne 9, 3) := by decide +kernel
theorem dX6_show_8 : decode cX6_show 8 = .ok (.aload_n 0, 1) := by decide +kernel
theorem dX6_show_9 : decode cX6_show 9 = .ok (.iconst 1, 1) := by decide +kernel
theorem dX6_show_10 : decode cX6_show 10 = .ok (.invokevirtual 45, 3) := by decide +kernel
theorem dX6_show_13 : decode cX6_show 13 = .ok (.ireturn, 1) := by decide +kernel
theorem dX6_show_14 : decode cX6_show 14 = .ok (.iload_n 2, 1) := by decide +kernel
theorem dX6_show_15 : decode cX6_show 15 = .ok (.iconst 0, 1) := by decide +kernel
theorem dX6_show_16 : decode cX6_show 16 = .ok (.bipush 11, 2) := by decide +kernel
theorem dX6_show_18 : decode cX6_show 18 = .ok (.invokestatic 64, 3) := by decide +kernel
theorem dX6_show_21 : decode cX6_show 21 = .ok (.ifCond .ne 9, 3) := by decide +kernel
theorem dX6_show_24 : decode cX6_show 24 = .ok (.aload_n 0, 1) := by decide +kernel
theorem dX6_show_25 : decode cX6_show 25 = .ok (.iconst 2, 1) := by decide +kernel
theorem dX6_show_26 : decode cX6_show 26 = .ok (.invokevirtual 45, 3) := by decide +kernel
theorem dX6_show_29 : decode cX6_show 29 = .ok (.ireturn, 1) := by decide +kernel
theorem dX6_show_30 : decode cX6_show 30 = .ok (.iload_n 2, 1) := by decide +kernel
theorem dX6_show_31 : decode cX6_show 31 = .ok (.tableswitch 151 4 11 #[45, 55, 67, 78, 90, 120, 130, 140], 45) := by decide +kernel
theorem dX6_show_76 : decode cX6_show 76 = .ok (.aload_n 0, 1) := by decide +kernel
theorem dX6_show_77 : decode cX6_show 77 = .ok (.aload_n 0, 1) := by decide +kernel
theorem dX6_show_78 : decode cX6_show 78 = .ok (.iload_n 1, 1) := by decide +kernel
theorem dX6_show_79 : decode cX6_show 79 = .ok (.invokevirtual 151, 3) := by decide +kernel
theorem dX6_show_82 : decode cX6_show 82 = .ok (.invokevirtual 71, 3) := by decide +kernel
theorem dX6_show_85 : decode cX6_show 85 = .ok (.ireturn, 1) := by decide +kernel
theorem dX6_show_86 : decode cX6_show 86 = .ok (.aload_n 0, 1) := by decide +kernel
theorem dX6_show_87 : decode cX6_show 87 = .ok (.aload_n 0, 1) := by decide +kernel
theorem dX6_show_88 : decode cX6_show 88 = .ok (.iload_n 1, 1) := by decide +kernel
theorem dX6_show_89 : decode cX6_show 89 = .ok (.bipush 7, 2) := by decide +kernel
theorem dX6_show_91 : decode cX6_show 91 = .ok (.invokevirtual 89, 3) := by decide +kernel
theorem dX6_show_94 : decode cX6_show 94 = .ok (.invokevirtual 71, 3) := by decide +kernel
theorem dX6_show_97 : decode cX6_show 97 = .ok (.ireturn, 1) := by decide +kernel
theorem dX6_show_98 : decode cX6_show 98 = .ok (.aload_n 0, 1) := by decide +kernel
theorem dX6_show_99 : decode cX6_show 99 = .ok (.aload_n 0, 1) := by decide +kernel
theorem dX6_show_100 : decode cX6_show 100 = .ok (.iload_n 1, 1) := by decide +kernel
theorem dX6_show_101 : decode cX6_show 101 = .ok (.iconst 4, 1) := by decide +kernel
theorem dX6_show_102 : decode cX6_show 102 = .ok (.invokevirtual 89, 3) := by decide +kernel
theorem dX6_show_105 : decode cX6_show 105 = .ok (.invokevirtual 71, 3) := by decide +kernel
theorem dX6_show_108 : decode cX6_show 108 = .ok (.ireturn, 1) := by decide +kernel
theorem dX6_show_109 : decode cX6_show 109 = .ok (.aload_n 0, 1) := by decide +kernel
theorem dX6_show_110 : decode cX6_show 110 = .ok (.aload_n 0, 1) := by decide +kernel
theorem dX6_show_111 : decode cX6_show 111 = .ok (.iload_n 1, 1) := by decide +kernel
theorem dX6_show_112 : decode cX6_show 112 = .ok (.bipush 6, 2) := by decide +kernel
theorem dX6_show_114 : decode cX6_show 114 = .ok (.invokevirtual 89, 3) := by decide +kernel
theorem dX6_show_117 : decode cX6_show 117 = .ok (.invokevirtual 71, 3) := by decide +kernel
theorem dX6_show_120 : decode cX6_show 120 = .ok (.ireturn, 1) := by decide +kernel
theorem dX6_show_121 : decode cX6_show 121 = .ok (.aload_n 0, 1) := by decide +kernel
theorem dX6_show_122 : decode cX6_show 122 = .ok (.aload_n 0, 1) := by decide +kernel
theorem dX6_show_123 : decode cX6_show 123 = .ok (.iload_n 1, 1) := by decide +kernel
theorem dX6_show_124 : decode cX6_show 124 = .ok (.invokevirtual 107, 3) := by decide +kernel
theorem dX6_show_127 : decode cX6_show 127 = .ok (.ifCond .ne 7, 3) := by decide +kernel
theorem dX6_show_130 : decode cX6_show 130 = .ok (.iconst 1, 1) := by decide +kernel
theorem dX6_show_131 : decode cX6_show 131 = .ok (.goto 16, 3) := by decide +kernel
theorem dX6_show_134 : decode cX6_show 134 = .ok (.aload_n 0, 1) := by decide +kernel
theorem dX6_show_135 : decode cX6_show 135 = .ok (.iload_n 1, 1) := by decide +kernel
theorem dX6_show_136 : decode cX6_show 136 = .ok (.invokevirtual 206, 3) := by decide +kernel
theorem dX6_show_139 : decode cX6_show 139 = .ok (.ifCond .eq 7, 3) := by decide +kernel
theorem dX6_show_142 : decode cX6_show 142 = .ok (.iconst 2, 1) := by decide +kernel
theorem dX6_show_143 : decode cX6_show 143 = .ok (.goto 4, 3) := by decide +kernel
theorem dX6_show_146 : decode cX6_show 146 = .ok (.iconst 0, 1) := by decide +kernel
theorem dX6_show_147 : decode cX6_show 147 = .ok (.invokevirtual 71, 3) := by decide +kernel
theorem dX6_show_150 : decode cX6_show 150 = .ok (.ireturn, 1) := by decide +kernel
theorem dX6_show_151 : decode cX6_show 151 = .ok (.aload_n 0, 1) := by decide +kernel
theorem dX6_show_152 : decode cX6_show 152 = .ok (.aload_n 0, 1) := by decide +kernel
theorem dX6_show_153 : decode cX6_show 153 = .ok (.iload_n 1, 1) := by decide +kernel
theorem dX6_show_154 : decode cX6_show 154 = .ok (.invokevirtual 98, 3) := by decide +kernel
theorem dX6_show_157 : decode cX6_show 157 = .ok (.invokevirtual 71, 3) := by decide +kernel
theorem dX6_show_160 : decode cX6_show 160 = .ok (.ireturn, 1) := by decide +kernel
theorem dX6_show_161 : decode cX6_show 161 = .ok (.aload_n 0, 1) := by decide +kernel
theorem dX6_show_162 : decode cX6_show 162 = .ok (.aload_n 0, 1) := by decide +kernel
theorem dX6_show_163 : decode cX6_show 163 = .ok (.iload_n 1, 1) := by decide +kernel
theorem dX6_show_164 : decode cX6_show 164 = .ok (.invokevirtual 110, 3) := by decide +kernel
theorem dX6_show_167 : decode cX6_show 167 = .ok (.invokevirtual 71, 3) := by decide +kernel
theorem dX6_show_170 : decode cX6_show 170 = .ok (.ireturn, 1) := by decide +kernel
theorem dX6_show_171 : decode cX6_show 171 = .ok (.aload_n 0, 1) := by decide +kernel
theorem dX6_show_172 : decode cX6_show 172 = .ok (.aload_n 0, 1) := by decide +kernel
theorem dX6_show_173 : decode cX6_show 173 = .ok (.iload_n 1, 1) := by decide +kernel
theorem dX6_show_174 : decode cX6_show 174 = .ok (.iconst 5, 1) := by decide +kernel
theorem dX6_show_175 : decode cX6_show 175 = .ok (.invokevirtual 89, 3) := by decide +kernel
theorem dX6_show_178 : decode cX6_show 178 = .ok (.invokevirtual 71, 3) := by decide +kernel
theorem dX6_show_181 : decode cX6_show 181 = .ok (.ireturn, 1) := by decide +kernel
theorem dX6_show_182 : decode cX6_show 182 = .ok (.aload_n 0, 1) := by decide +kernel
theorem dX6_show_183 : decode cX6_show 183 = .ok (.aload_n 0, 1) := by decide +kernel
theorem dX6_show_184 : decode cX6_show 184 = .ok (.iload_n 1, 1) := by decide +kernel
theorem dX6_show_185 : decode cX6_show 185 = .ok (.iload_n 2, 1) := by decide +kernel
theorem dX6_show_186 : decode cX6_show 186 = .ok (.invokevirtual 89, 3) := by decide +kernel
theorem dX6_show_189 : decode cX6_show 189 = .ok (.invokevirtual 71, 3) := by decide +kernel
theorem dX6_show_192 : decode cX6_show 192 = .ok (.ireturn, 1) := by decide +kernel
set_option maxRecDepth 20000 in
theorem ggX6_why_X6_isHall : GoodIn wsX6_why wsX6_isHall := goodIn_ca (goodIn_r _ [6, 7, 8, 9, 5, 10, 135, 136, 137, 138, 139, 140, 141, 142, 143, 144, 145, 146, 147, 148, 149, 150, 151, 152, 153, 154, 155, 156, 157, 158, 159, 160, 161] (by decide +kernel) (by decide +kernel)) (goodIn_sub (fun _ h => List.mem_cons_of_mem _ (List.mem_append_right _ h)) (by decide +kernel))
set_option maxRecDepth 20000 in
theorem gX6_why_X6_isHall : GoodIn wsX6_why (wsV RX6 104 RX6 yX6_isHall wsX6_isHall) := goodIn_app (goodIn_of _ (by decide +kernel)) ggX6_why_X6_isHall
set_option maxRecDepth 20000 in
theorem ggX6_why_X6_isFilm : GoodIn wsX6_why wsX6_isFilm := goodIn_ca (goodIn_r _ [14, 7, 8, 9, 5, 10, 135, 136, 137, 138, 139, 140, 141, 142, 143, 144, 145, 146, 147, 148, 149, 150, 151, 152, 153, 154, 155, 156, 157, 158, 159, 160, 161] (by decide +kernel) (by decide +kernel)) (goodIn_sub (fun _ h => List.mem_cons_of_mem _ (List.mem_append_right _ h)) (by decide +kernel))
set_option maxRecDepth 20000 in
theorem gX6_why_X6_isFilm : GoodIn wsX6_why (wsV RX6 78 RX6 yX6_isFilm wsX6_isFilm) := goodIn_app (goodIn_of _ (by decide +kernel)) ggX6_why_X6_isFilm
set_option maxRecDepth 20000 in
theorem ggX6_why_X6_fails : GoodIn wsX6_why wsX6_fails := goodIn_r _ [18, 19, 135, 136, 137, 138, 139, 140, 141, 142, 143, 144, 145, 146, 147, 148, 149, 150, 151, 152, 153, 154, 155, 156, 157, 158, 159, 160, 161] (by decide +kernel) (by decide +kernel)
set_option maxRecDepth 20000 in
theorem gX6_why_X6_fails : GoodIn wsX6_why (wsV RX6 45 RX6 yX6_fails wsX6_fails) := goodIn_app (goodIn_of _ (by decide +kernel)) ggX6_why_X6_fails
set_option maxRecDepth 20000 in
theorem ggX6_why_X6_isPlace : GoodIn wsX6_why wsX6_isPlace := goodIn_r _ [22, 23, 24, 5, 25, 8, 9, 10] (by decide +kernel) (by decide +kernel)
set_option maxRecDepth 20000 in
theorem gX6_why_X6_isPlace : GoodIn wsX6_why (va_wsS RX6 192 yX6_isPlace wsX6_isPlace) := goodIn_app (goodIn_of _ (by decide +kernel)) ggX6_why_X6_isPlace
set_option maxRecDepth 20000 in
theorem ggX6_why_X6_breaksNew : GoodIn wsX6_why wsX6_breaksNew := goodIn_ca (goodIn_r _ [29, 30, 31, 32, 5, 33, 7, 34, 35, 36, 37, 38, 39, 40, 41, 42, 43, 44, 45, 46, 47, 48, 49, 50, 51, 52, 53, 54, 55, 56, 57, 58, 59, 60, 61, 62, 63, 64, 65, 66, 67, 68, 69, 70, 71, 72, 73, 74, 1, 75, 76, 77, 78, 79, 80, 81, 82, 83, 84, 85, 86, 87, 88, 89, 90, 91, 92, 93, 94, 95, 96, 97, 98, 99, 100, 101, 102, 103, 104, 105, 106, 107, 108, 109, 110, 111, 112, 113, 114, 115, 116, 117, 118, 8, 9, 10, 119, 120, 121, 122, 123, 124, 125, 126, 127, 128, 129, 130, 135, 136, 137, 138, 139, 140, 141, 142, 143, 144, 145, 146, 147, 148, 149, 150, 151, 152, 153, 154, 155, 156, 157, 158, 159, 160, 161] (by decide +kernel) (by decide +kernel)) (goodIn_sub (fun _ h => List.mem_cons_of_mem _ (List.mem_append_right _ h)) (by decide +kernel))
set_option maxRecDepth 20000 in
theorem gX6_why_X6_breaksNew : GoodIn wsX6_why (wsV RX6 195 RX6 yX6_breaksNew wsX6_breaksNew) := goodIn_app (goodIn_of _ (by decide +kernel)) ggX6_why_X6_breaksNew
set_option maxRecDepth 20000 in
theorem ggX6_why_X6_done : GoodIn wsX6_why wsX6_done := goodIn_r _ [134, 19, 135, 136, 137, 138, 139, 140, 141, 142, 143, 144, 145, 146, 147, 148, 149, 150, 151, 152, 153, 154, 155, 156, 157, 158, 159, 160, 161] (by decide +kernel) (by decide +kernel)
set_option maxRecDepth 20000 in
theorem gX6_why_X6_done : GoodIn wsX6_why (wsV RX6 71 RX6 yX6_done wsX6_done) := goodIn_app (goodIn_of _ (by decide +kernel)) ggX6_why_X6_done
theorem dX6_why_0 : decode cX6_why 0 = .ok (.aload_n 0, 1) := by decide +kernel
theorem dX6_why_1 : decode cX6_why 1 = .ok (.iload_n 1, 1) := by decide +kernel
theorem dX6_why_2 : decode cX6_why 2 = .ok (.invokevirtual 104, 3) := by decide +kernel
theorem dX6_why_5 : decode cX6_why 5 = .ok (.ifCond .eq 11, 3) := by decide +kernel
theorem dX6_why_8 : decode cX6_why 8 = .ok (.aload_n 0, 1) := by decide +kernel
theorem dX6_why_9 : decode cX6_why 9 = .ok (.iload_n 2, 1) := by decide +kernel
theorem dX6_why_10 : decode cX6_why 10 = .ok (.invokevirtual 78, 3) := by decide +kernel
theorem dX6_why_13 : decode cX6_why 13 = .ok (.ifCond .ne 9, 3) := by decide +kernel
theorem dX6_why_16 : decode cX6_why 16 = .ok (.aload_n 0, 1) := by decide +kernel
theorem dX6_why_17 : decode cX6_why 17 = .ok (.iconst 1, 1) := by decide +kernel
theorem dX6_why_18 : decode cX6_why 18 = .ok (.invokevirtual 45, 3) := by decide +kernel
theorem dX6_why_21 : decode cX6_why 21 = .ok (.ireturn, 1) := by decide +kernel
theorem dX6_why_22 : decode cX6_why 22 = .ok (.iload_n 3, 1) := by decide +kernel
theorem dX6_why_23 : decode cX6_why 23 = .ok (.iload 4, 2) := by decide +kernel
theorem dX6_why_25 : decode cX6_why 25 = .ok (.invokestatic 192, 3) := by decide +kernel
theorem dX6_why_28 : decode cX6_why 28 = .ok (.ifCond .ne 9, 3) := by decide +kernel
theorem dX6_why_31 : decode cX6_why 31 = .ok (.aload_n 0, 1) := by decide +kernel
theorem dX6_why_32 : decode cX6_why 32 = .ok (.iconst 2, 1) := by decide +kernel
theorem dX6_why_33 : decode cX6_why 33 = .ok (.invokevirtual 45, 3) := by decide +kernel
theorem dX6_why_36 : decode cX6_why 36 = .ok (.ireturn, 1) := by decide +kernel
theorem dX6_why_37 : decode cX6_why 37 = .ok (.aload_n 0, 1) := by decide +kernel
theorem dX6_why_38 : decode cX6_why 38 = .ok (.iload_n 1, 1) := by decide +kernel
theorem dX6_why_39 : decode cX6_why 39 = .ok (.iload_n 2, 1) := by decide +kernel
theorem dX6_why_40 : decode cX6_why 40 = .ok (.iload_n 3, 1) := by decide +kernel
theorem dX6_why_41 : decode cX6_why 41 = .ok (.iload 4, 2) := by decide +kernel
theorem dX6_why_43 : decode cX6_why 43 = .ok (.invokevirtual 195, 3) := by decide +kernel
theorem dX6_why_46 : decode cX6_why 46 = .ok (.istore 6, 2) := by decide +kernel
theorem dX6_why_48 : decode cX6_why 48 = .ok (.aload_n 0, 1) := by decide +kernel
theorem dX6_why_49 : decode cX6_why 49 = .ok (.iload 5, 2) := by decide +kernel
theorem dX6_why_51 : decode cX6_why 51 = .ok (.ifCond .eq 10, 3) := by decide +kernel
theorem dX6_why_54 : decode cX6_why 54 = .ok (.aload_n 0, 1) := by decide +kernel
theorem dX6_why_55 : decode cX6_why 55 = .ok (.getfield 166, 3) := by decide +kernel
theorem dX6_why_58 : decode cX6_why 58 = .ok (.goto 5, 3) := by decide +kernel
theorem dX6_why_61 : decode cX6_why 61 = .ok (.iload 6, 2) := by decide +kernel
theorem dX6_why_63 : decode cX6_why 63 = .ok (.invokevirtual 71, 3) := by decide +kernel
theorem dX6_why_66 : decode cX6_why 66 = .ok (.ireturn, 1) := by decide +kernel
set_option maxRecDepth 20000 in
theorem ggX6_firstStart_X6_isHall : GoodIn wsX6_firstStart wsX6_isHall := goodIn_ca (goodIn_r _ [5, 6, 7, 8, 4, 9, 131, 132, 133, 134, 135, 136, 137, 138, 139, 140, 141, 142, 143, 144, 145, 146, 147, 148, 149, 150, 151, 152, 153, 154, 155, 156, 157] (by decide +kernel) (by decide +kernel)) (goodIn_sub (fun _ h => List.mem_cons_of_mem _ (List.mem_append_right _ h)) (by decide +kernel))
set_option maxRecDepth 20000 in
theorem gX6_firstStart_X6_isHall : GoodIn wsX6_firstStart (wsV RX6 104 RX6 yX6_isHall wsX6_isHall) := goodIn_app (goodIn_of _ (by decide +kernel)) ggX6_firstStart_X6_isHall
set_option maxRecDepth 20000 in
theorem ggX6_firstStart_X6_isFilm : GoodIn wsX6_firstStart wsX6_isFilm := goodIn_ca (goodIn_r _ [13, 6, 7, 8, 4, 9, 131, 132, 133, 134, 135, 136, 137, 138, 139, 140, 141, 142, 143, 144, 145, 146, 147, 148, 149, 150, 151, 152, 153, 154, 155, 156, 157] (by decide +kernel) (by decide +kernel)) (goodIn_sub (fun _ h => List.mem_cons_of_mem _ (List.mem_append_right _ h)) (by decide +kernel))
set_option maxRecDepth 20000 in
theorem gX6_firstStart_X6_isFilm : GoodIn wsX6_firstStart (wsV RX6 78 RX6 yX6_isFilm wsX6_isFilm) := goodIn_app (goodIn_of _ (by decide +kernel)) ggX6_firstStart_X6_isFilm
set_option maxRecDepth 20000 in
theorem ggX6_firstStart_X6_fails : GoodIn wsX6_firstStart wsX6_fails := goodIn_r _ [17, 18, 131, 132, 133, 134, 135, 136, 137, 138, 139, 140, 141, 142, 143, 144, 145, 146, 147, 148, 149, 150, 151, 152, 153, 154, 155, 156, 157] (by decide +kernel) (by decide +kernel)
set_option maxRecDepth 20000 in
theorem gX6_firstStart_X6_fails : GoodIn wsX6_firstStart (wsV RX6 45 RX6 yX6_fails wsX6_fails) := goodIn_app (goodIn_of _ (by decide +kernel)) ggX6_firstStart_X6_fails
set_option maxRecDepth 20000 in
theorem ggX6_firstStart_X6_isPlace : GoodIn wsX6_firstStart wsX6_isPlace := goodIn_r _ [21, 22, 23, 4, 24, 7, 8, 9] (by decide +kernel) (by decide +kernel)
set_option maxRecDepth 20000 in
theorem gX6_firstStart_X6_isPlace : GoodIn wsX6_firstStart (va_wsS RX6 192 yX6_isPlace wsX6_isPlace) := goodIn_app (goodIn_of _ (by decide +kernel)) ggX6_firstStart_X6_isPlace
set_option maxRecDepth 20000 in
theorem ggX6_firstStart_X6_bestReel : GoodIn wsX6_firstStart wsX6_bestReel := goodIn_ca (goodIn_r _ [28, 6, 29, 30, 31, 4, 32, 33, 34, 35, 36, 37, 38, 39, 40, 41, 42, 43, 44, 45, 46, 47, 48, 49, 50, 51, 52, 53, 54, 55, 131, 132, 133, 134, 135, 136, 137, 138, 139, 140, 141, 142, 143, 144, 145, 146, 147, 148, 149, 150, 151, 152, 153, 154, 155, 156, 157] (by decide +kernel) (by decide +kernel)) (goodIn_sub (fun _ h => List.mem_cons_of_mem _ (List.mem_append_right _ h)) (by decide +kernel))
set_option maxRecDepth 20000 in
theorem gX6_firstStart_X6_bestReel : GoodIn wsX6_firstStart (wsV RX6 130 RX6 yX6_bestReel wsX6_bestReel) := goodIn_app (goodIn_of _ (by decide +kernel)) ggX6_firstStart_X6_bestReel
set_option maxRecDepth 20000 in
theorem ggX6_firstStart_X6_lengthOf : GoodIn wsX6_firstStart wsX6_lengthOf := goodIn_ca (goodIn_r _ [51, 6, 33, 34, 35, 4, 36, 131, 132, 133, 134, 135, 136, 137, 138, 139, 140, 141, 142, 143, 144, 145, 146, 147, 148, 149, 150, 151, 152, 153, 154, 155, 156, 157] (by decide +kernel) (by decide +kernel)) (goodIn_sub (fun _ h => List.mem_cons_of_mem _ (List.mem_append_right _ h)) (by decide +kernel))
set_option maxRecDepth 20000 in
theorem gX6_firstStart_X6_lengthOf : GoodIn wsX6_firstStart (wsV RX6 119 RX6 yX6_lengthOf wsX6_lengthOf) := goodIn_app (goodIn_of _ (by decide +kernel)) ggX6_firstStart_X6_lengthOf
set_option maxRecDepth 20000 in
theorem ggX6_firstStart_X6_filmAt : GoodIn wsX6_firstStart wsX6_filmAt := goodIn_ca (goodIn_r _ [40, 6, 131, 132, 133, 134, 135, 136, 137, 138, 139, 140, 141, 142, 143, 144, 145, 146, 147, 148, 149, 150, 151, 152, 153, 154, 155, 156, 157] (by decide +kernel) (by decide +kernel)) (goodIn_sub (fun _ h => List.mem_cons_of_mem _ (List.mem_append_right _ h)) (by decide +kernel))
set_option maxRecDepth 20000 in
theorem gX6_firstStart_X6_filmAt : GoodIn wsX6_firstStart (wsV RX6 81 RX6 yX6_filmAt wsX6_filmAt) := goodIn_app (goodIn_of _ (by decide +kernel)) ggX6_firstStart_X6_filmAt
set_option maxRecDepth 20000 in
theorem ggX6_firstStart_X6_breaks : GoodIn wsX6_firstStart wsX6_breaks := goodIn_ca (goodIn_r _ [59, 60, 61, 62, 63, 64, 65, 6, 66, 67, 68, 4, 69, 70, 71, 72, 73, 74, 75, 76, 77, 78, 37, 38, 39, 40, 79, 80, 81, 82, 83, 84, 85, 86, 87, 88, 89, 90, 91, 92, 93, 94, 95, 96, 97, 98, 99, 100, 101, 102, 103, 104, 105, 106, 107, 108, 109, 110, 111, 112, 113, 114, 7, 8, 9, 115, 116, 117, 118, 119, 120, 121, 122, 123, 124, 125, 126, 131, 132, 133, 134, 135, 136, 137, 138, 139, 140, 141, 142, 143, 144, 145, 146, 147, 148, 149, 150, 151, 152, 153, 154, 155, 156, 157] (by decide +kernel) (by decide +kernel)) (goodIn_sub (fun _ h => List.mem_cons_of_mem _ (List.mem_append_right _ h)) (by decide +kernel))
set_option maxRecDepth 20000 in
theorem gX6_firstStart_X6_breaks : GoodIn wsX6_firstStart (wsV RX6 188 RX6 yX6_breaks wsX6_breaks) := goodIn_app (goodIn_of _ (by decide +kernel)) ggX6_firstStart_X6_breaks
set_option maxRecDepth 20000 in
theorem ggX6_firstStart_X6_done : GoodIn wsX6_firstStart wsX6_done := goodIn_r _ [130, 18, 131, 132, 133, 134, 135, 136, 137, 138, 139, 140, 141, 142, 143, 144, 145, 146, 147, 148, 149, 150, 151, 152, 153, 154, 155, 156, 157] (by decide +kernel) (by decide +kernel)
set_option maxRecDepth 20000 in
theorem gX6_firstStart_X6_done : GoodIn wsX6_firstStart (wsV RX6 71 RX6 yX6_done wsX6_done) := goodIn_app (goodIn_of _ (by decide +kernel)) ggX6_firstStart_X6_done
