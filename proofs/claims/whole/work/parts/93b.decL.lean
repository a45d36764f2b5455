/-! decode rows of the helpers -/
theorem dL_addHall_0 : decode cL_addHall 0 = .ok (.aload 4, 2) := by decide +kernel
theorem dL_addHall_2 : decode cL_addHall 2 = .ok (.iconst 0, 1) := by decide +kernel
theorem dL_addHall_3 : decode cL_addHall 3 = .ok (.aload_n 0, 1) := by decide +kernel
theorem dL_addHall_4 : decode cL_addHall 4 = .ok (.iload_n 1, 1) := by decide +kernel
theorem dL_addHall_5 : decode cL_addHall 5 = .ok (.iload_n 2, 1) := by decide +kernel
theorem dL_addHall_6 : decode cL_addHall 6 = .ok (.iload_n 3, 1) := by decide +kernel
theorem dL_addHall_7 : decode cL_addHall 7 = .ok (.invokevirtual 7, 3) := by decide +kernel
theorem dL_addHall_10 : decode cL_addHall 10 = .ok (.i2l, 1) := by decide +kernel
theorem dL_addHall_11 : decode cL_addHall 11 = .ok (.lastore, 1) := by decide +kernel
theorem dL_addHall_12 : decode cL_addHall 12 = .ok (.goto 11, 3) := by decide +kernel
theorem dL_addHall_15 : decode cL_addHall 15 = .ok (.astore 5, 2) := by decide +kernel
theorem dL_addHall_17 : decode cL_addHall 17 = .ok (.iconst 1, 1) := by decide +kernel
theorem dL_addHall_18 : decode cL_addHall 18 = .ok (.ireturn, 1) := by decide +kernel
theorem dL_addHall_19 : decode cL_addHall 19 = .ok (.astore 5, 2) := by decide +kernel
theorem dL_addHall_21 : decode cL_addHall 21 = .ok (.iconst 2, 1) := by decide +kernel
theorem dL_addHall_22 : decode cL_addHall 22 = .ok (.ireturn, 1) := by decide +kernel
theorem dL_addHall_23 : decode cL_addHall 23 = .ok (.iconst 0, 1) := by decide +kernel
theorem dL_addHall_24 : decode cL_addHall 24 = .ok (.ireturn, 1) := by decide +kernel
theorem dL_addFilm_0 : decode cL_addFilm 0 = .ok (.aload 6, 2) := by decide +kernel
theorem dL_addFilm_2 : decode cL_addFilm 2 = .ok (.iconst 0, 1) := by decide +kernel
theorem dL_addFilm_3 : decode cL_addFilm 3 = .ok (.aload_n 0, 1) := by decide +kernel
theorem dL_addFilm_4 : decode cL_addFilm 4 = .ok (.iload_n 1, 1) := by decide +kernel
theorem dL_addFilm_5 : decode cL_addFilm 5 = .ok (.iload_n 2, 1) := by decide +kernel
theorem dL_addFilm_6 : decode cL_addFilm 6 = .ok (.iload_n 3, 1) := by decide +kernel
theorem dL_addFilm_7 : decode cL_addFilm 7 = .ok (.iload 4, 2) := by decide +kernel
theorem dL_addFilm_9 : decode cL_addFilm 9 = .ok (.iload 5, 2) := by decide +kernel
theorem dL_addFilm_11 : decode cL_addFilm 11 = .ok (.invokevirtual 17, 3) := by decide +kernel
theorem dL_addFilm_14 : decode cL_addFilm 14 = .ok (.i2l, 1) := by decide +kernel
theorem dL_addFilm_15 : decode cL_addFilm 15 = .ok (.lastore, 1) := by decide +kernel
theorem dL_addFilm_16 : decode cL_addFilm 16 = .ok (.goto 11, 3) := by decide +kernel
theorem dL_addFilm_19 : decode cL_addFilm 19 = .ok (.astore 7, 2) := by decide +kernel
theorem dL_addFilm_21 : decode cL_addFilm 21 = .ok (.iconst 1, 1) := by decide +kernel
theorem dL_addFilm_22 : decode cL_addFilm 22 = .ok (.ireturn, 1) := by decide +kernel
theorem dL_addFilm_23 : decode cL_addFilm 23 = .ok (.astore 7, 2) := by decide +kernel
theorem dL_addFilm_25 : decode cL_addFilm 25 = .ok (.iconst 2, 1) := by decide +kernel
theorem dL_addFilm_26 : decode cL_addFilm 26 = .ok (.ireturn, 1) := by decide +kernel
theorem dL_addFilm_27 : decode cL_addFilm 27 = .ok (.iconst 0, 1) := by decide +kernel
theorem dL_addFilm_28 : decode cL_addFilm 28 = .ok (.ireturn, 1) := by decide +kernel
theorem dL_setShares_0 : decode cL_setShares 0 = .ok (.aload 5, 2) := by decide +kernel
theorem dL_setShares_2 : decode cL_setShares 2 = .ok (.iconst 0, 1) := by decide +kernel
theorem dL_setShares_3 : decode cL_setShares 3 = .ok (.aload_n 0, 1) := by decide +kernel
theorem dL_setShares_4 : decode cL_setShares 4 = .ok (.iload_n 1, 1) := by decide +kernel
theorem dL_setShares_5 : decode cL_setShares 5 = .ok (.iload_n 2, 1) := by decide +kernel
theorem dL_setShares_6 : decode cL_setShares 6 = .ok (.iload_n 3, 1) := by decide +kernel
theorem dL_setShares_7 : decode cL_setShares 7 = .ok (.iload 4, 2) := by decide +kernel
theorem dL_setShares_9 : decode cL_setShares 9 = .ok (.invokevirtual 21, 3) := by decide +kernel
theorem dL_setShares_12 : decode cL_setShares 12 = .ok (.i2l, 1) := by decide +kernel
theorem dL_setShares_13 : decode cL_setShares 13 = .ok (.lastore, 1) := by decide +kernel
theorem dL_setShares_14 : decode cL_setShares 14 = .ok (.goto 11, 3) := by decide +kernel
theorem dL_setShares_17 : decode cL_setShares 17 = .ok (.astore 6, 2) := by decide +kernel
theorem dL_setShares_19 : decode cL_setShares 19 = .ok (.iconst 1, 1) := by decide +kernel
theorem dL_setShares_20 : decode cL_setShares 20 = .ok (.ireturn, 1) := by decide +kernel
theorem dL_setShares_21 : decode cL_setShares 21 = .ok (.astore 6, 2) := by decide +kernel
theorem dL_setShares_23 : decode cL_setShares 23 = .ok (.iconst 2, 1) := by decide +kernel
theorem dL_setShares_24 : decode cL_setShares 24 = .ok (.ireturn, 1) := by decide +kernel
theorem dL_setShares_25 : decode cL_setShares 25 = .ok (.iconst 0, 1) := by decide +kernel
theorem dL_setShares_26 : decode cL_setShares 26 = .ok (.ireturn, 1) := by decide +kernel
theorem dL_addTrailer_0 : decode cL_addTrailer 0 = .ok (.aload 5, 2) := by decide +kernel
theorem dL_addTrailer_2 : decode cL_addTrailer 2 = .ok (.iconst 0, 1) := by decide +kernel
theorem dL_addTrailer_3 : decode cL_addTrailer 3 = .ok (.aload_n 0, 1) := by decide +kernel
theorem dL_addTrailer_4 : decode cL_addTrailer 4 = .ok (.iload_n 1, 1) := by decide +kernel
theorem dL_addTrailer_5 : decode cL_addTrailer 5 = .ok (.iload_n 2, 1) := by decide +kernel
theorem dL_addTrailer_6 : decode cL_addTrailer 6 = .ok (.iload_n 3, 1) := by decide +kernel
theorem dL_addTrailer_7 : decode cL_addTrailer 7 = .ok (.iload 4, 2) := by decide +kernel
theorem dL_addTrailer_9 : decode cL_addTrailer 9 = .ok (.invokevirtual 27, 3) := by decide +kernel
theorem dL_addTrailer_12 : decode cL_addTrailer 12 = .ok (.i2l, 1) := by decide +kernel
theorem dL_addTrailer_13 : decode cL_addTrailer 13 = .ok (.lastore, 1) := by decide +kernel
theorem dL_addTrailer_14 : decode cL_addTrailer 14 = .ok (.goto 15, 3) := by decide +kernel
theorem dL_addTrailer_17 : decode cL_addTrailer 17 = .ok (.astore 6, 2) := by decide +kernel
theorem dL_addTrailer_19 : decode cL_addTrailer 19 = .ok (.iconst 1, 1) := by decide +kernel
theorem dL_addTrailer_20 : decode cL_addTrailer 20 = .ok (.ireturn, 1) := by decide +kernel
theorem dL_addTrailer_21 : decode cL_addTrailer 21 = .ok (.astore 6, 2) := by decide +kernel
theorem dL_addTrailer_23 : decode cL_addTrailer 23 = .ok (.iconst 2, 1) := by decide +kernel
theorem dL_addTrailer_24 : decode cL_addTrailer 24 = .ok (.ireturn, 1) := by decide +kernel
theorem dL_addTrailer_25 : decode cL_addTrailer 25 = .ok (.astore 6, 2) := by decide +kernel
theorem dL_addTrailer_27 : decode cL_addTrailer 27 = .ok (.iconst 3, 1) := by decide +kernel
theorem dL_addTrailer_28 : decode cL_addTrailer 28 = .ok (.ireturn, 1) := by decide +kernel
theorem dL_addTrailer_29 : decode cL_addTrailer 29 = .ok (.iconst 0, 1) := by decide +kernel
theorem dL_addTrailer_30 : decode cL_addTrailer 30 = .ok (.ireturn, 1) := by decide +kernel
theorem dL_set_0 : decode cL_set 0 = .ok (.aload_n 3, 1) := by decide +kernel
theorem dL_set_1 : decode cL_set 1 = .ok (.iconst 0, 1) := by decide +kernel
theorem dL_set_2 : decode cL_set 2 = .ok (.aload_n 0, 1) := by decide +kernel
theorem dL_set_3 : decode cL_set 3 = .ok (.iload_n 1, 1) := by decide +kernel
theorem dL_set_4 : decode cL_set 4 = .ok (.iload_n 2, 1) := by decide +kernel
theorem dL_set_5 : decode cL_set 5 = .ok (.invokevirtual 30, 3) := by decide +kernel
theorem dL_set_8 : decode cL_set 8 = .ok (.i2l, 1) := by decide +kernel
theorem dL_set_9 : decode cL_set 9 = .ok (.lastore, 1) := by decide +kernel
theorem dL_set_10 : decode cL_set 10 = .ok (.goto 11, 3) := by decide +kernel
theorem dL_set_13 : decode cL_set 13 = .ok (.astore 4, 2) := by decide +kernel
theorem dL_set_15 : decode cL_set 15 = .ok (.iconst 1, 1) := by decide +kernel
theorem dL_set_16 : decode cL_set 16 = .ok (.ireturn, 1) := by decide +kernel
theorem dL_set_17 : decode cL_set 17 = .ok (.astore 4, 2) := by decide +kernel
theorem dL_set_19 : decode cL_set 19 = .ok (.iconst 2, 1) := by decide +kernel
theorem dL_set_20 : decode cL_set 20 = .ok (.ireturn, 1) := by decide +kernel
theorem dL_set_21 : decode cL_set 21 = .ok (.iconst 0, 1) := by decide +kernel
theorem dL_set_22 : decode cL_set 22 = .ok (.ireturn, 1) := by decide +kernel
theorem dL_setLimit_0 : decode cL_setLimit 0 = .ok (.aload_n 3, 1) := by decide +kernel
theorem dL_setLimit_1 : decode cL_setLimit 1 = .ok (.iconst 0, 1) := by decide +kernel
theorem dL_setLimit_2 : decode cL_setLimit 2 = .ok (.aload_n 0, 1) := by decide +kernel
theorem dL_setLimit_3 : decode cL_setLimit 3 = .ok (.iload_n 1, 1) := by decide +kernel
theorem dL_setLimit_4 : decode cL_setLimit 4 = .ok (.iload_n 2, 1) := by decide +kernel
theorem dL_setLimit_5 : decode cL_setLimit 5 = .ok (.invokevirtual 34, 3) := by decide +kernel
theorem dL_setLimit_8 : decode cL_setLimit 8 = .ok (.i2l, 1) := by decide +kernel
theorem dL_setLimit_9 : decode cL_setLimit 9 = .ok (.lastore, 1) := by decide +kernel
theorem dL_setLimit_10 : decode cL_setLimit 10 = .ok (.goto 11, 3) := by decide +kernel
theorem dL_setLimit_13 : decode cL_setLimit 13 = .ok (.astore 4, 2) := by decide +kernel
theorem dL_setLimit_15 : decode cL_setLimit 15 = .ok (.iconst 1, 1) := by decide +kernel
theorem dL_setLimit_16 : decode cL_setLimit 16 = .ok (.ireturn, 1) := by decide +kernel
theorem dL_setLimit_17 : decode cL_setLimit 17 = .ok (.astore 4, 2) := by decide +kernel
theorem dL_setLimit_19 : decode cL_setLimit 19 = .ok (.iconst 2, 1) := by decide +kernel
theorem dL_setLimit_20 : decode cL_setLimit 20 = .ok (.ireturn, 1) := by decide +kernel
theorem dL_setLimit_21 : decode cL_setLimit 21 = .ok (.iconst 0, 1) := by decide +kernel
theorem dL_setLimit_22 : decode cL_setLimit 22 = .ok (.ireturn, 1) := by decide +kernel
theorem dL_setting_0 : decode cL_setting 0 = .ok (.aload_n 2, 1) := by decide +kernel
theorem dL_setting_1 : decode cL_setting 1 = .ok (.iconst 0, 1) := by decide +kernel
theorem dL_setting_2 : decode cL_setting 2 = .ok (.aload_n 0, 1) := by decide +kernel
theorem dL_setting_3 : decode cL_setting 3 = .ok (.iload_n 1, 1) := by decide +kernel
theorem dL_setting_4 : decode cL_setting 4 = .ok (.invokevirtual 37, 3) := by decide +kernel
theorem dL_setting_7 : decode cL_setting 7 = .ok (.i2l, 1) := by decide +kernel
theorem dL_setting_8 : decode cL_setting 8 = .ok (.lastore, 1) := by decide +kernel
theorem dL_setting_9 : decode cL_setting 9 = .ok (.goto 6, 3) := by decide +kernel
theorem dL_setting_12 : decode cL_setting 12 = .ok (.astore_n 3, 1) := by decide +kernel
theorem dL_setting_13 : decode cL_setting 13 = .ok (.iconst 1, 1) := by decide +kernel
theorem dL_setting_14 : decode cL_setting 14 = .ok (.ireturn, 1) := by decide +kernel
theorem dL_setting_15 : decode cL_setting 15 = .ok (.iconst 0, 1) := by decide +kernel
theorem dL_setting_16 : decode cL_setting 16 = .ok (.ireturn, 1) := by decide +kernel
theorem dL_hall_0 : decode cL_hall 0 = .ok (.aload_n 3, 1) := by decide +kernel
theorem dL_hall_1 : decode cL_hall 1 = .ok (.iconst 0, 1) := by decide +kernel
theorem dL_hall_2 : decode cL_hall 2 = .ok (.aload_n 0, 1) := by decide +kernel
theorem dL_hall_3 : decode cL_hall 3 = .ok (.iload_n 1, 1) := by decide +kernel
theorem dL_hall_4 : decode cL_hall 4 = .ok (.iload_n 2, 1) := by decide +kernel
theorem dL_hall_5 : decode cL_hall 5 = .ok (.invokevirtual 41, 3) := by decide +kernel
theorem dL_hall_8 : decode cL_hall 8 = .ok (.i2l, 1) := by decide +kernel
theorem dL_hall_9 : decode cL_hall 9 = .ok (.lastore, 1) := by decide +kernel
theorem dL_hall_10 : decode cL_hall 10 = .ok (.goto 11, 3) := by decide +kernel
theorem dL_hall_13 : decode cL_hall 13 = .ok (.astore 4, 2) := by decide +kernel
theorem dL_hall_15 : decode cL_hall 15 = .ok (.iconst 1, 1) := by decide +kernel
theorem dL_hall_16 : decode cL_hall 16 = .ok (.ireturn, 1) := by decide +kernel
theorem dL_hall_17 : decode cL_hall 17 = .ok (.astore 4, 2) := by decide +kernel
theorem dL_hall_19 : decode cL_hall 19 = .ok (.iconst 2, 1) := by decide +kernel
theorem dL_hall_20 : decode cL_hall 20 = .ok (.ireturn, 1) := by decide +kernel
theorem dL_hall_21 : decode cL_hall 21 = .ok (.iconst 0, 1) := by decide +kernel
theorem dL_hall_22 : decode cL_hall 22 = .ok (.ireturn, 1) := by decide +kernel
theorem dL_film_0 : decode cL_film 0 = .ok (.aload_n 3, 1) := by decide +kernel
theorem dL_film_1 : decode cL_film 1 = .ok (.iconst 0, 1) := by decide +kernel
theorem dL_film_2 : decode cL_film 2 = .ok (.aload_n 0, 1) := by decide +kernel
theorem dL_film_3 : decode cL_film 3 = .ok (.iload_n 1, 1) := by decide +kernel
theorem dL_film_4 : decode cL_film 4 = .ok (.iload_n 2, 1) := by decide +kernel
theorem dL_film_5 : decode cL_film 5 = .ok (.invokevirtual 44, 3) := by decide +kernel
theorem dL_film_8 : decode cL_film 8 = .ok (.i2l, 1) := by decide +kernel
theorem dL_film_9 : decode cL_film 9 = .ok (.lastore, 1) := by decide +kernel
theorem dL_film_10 : decode cL_film 10 = .ok (.goto 11, 3) := by decide +kernel
theorem dL_film_13 : decode cL_film 13 = .ok (.astore 4, 2) := by decide +kernel
theorem dL_film_15 : decode cL_film 15 = .ok (.iconst 1, 1) := by decide +kernel
theorem dL_film_16 : decode cL_film 16 = .ok (.ireturn, 1) := by decide +kernel
theorem dL_film_17 : decode cL_film 17 = .ok (.astore 4, 2) := by decide +kernel
theorem dL_film_19 : decode cL_film 19 = .ok (.iconst 2, 1) := by decide +kernel
theorem dL_film_20 : decode cL_film 20 = .ok (.ireturn, 1) := by decide +kernel
theorem dL_film_21 : decode cL_film 21 = .ok (.iconst 0, 1) := by decide +kernel
theorem dL_film_22 : decode cL_film 22 = .ok (.ireturn, 1) := by decide +kernel
theorem dL_share_0 : decode cL_share 0 = .ok (.aload_n 3, 1) := by decide +kernel
theorem dL_share_1 : decode cL_share 1 = .ok (.iconst 0, 1) := by decide +kernel
theorem dL_share_2 : decode cL_share 2 = .ok (.aload_n 0, 1) := by decide +kernel
theorem dL_share_3 : decode cL_share 3 = .ok (.iload_n 1, 1) := by decide +kernel
theorem dL_share_4 : decode cL_share 4 = .ok (.iload_n 2, 1) := by decide +kernel
theorem dL_share_5 : decode cL_share 5 = .ok (.invokevirtual 47, 3) := by decide +kernel
theorem dL_share_8 : decode cL_share 8 = .ok (.i2l, 1) := by decide +kernel
theorem dL_share_9 : decode cL_share 9 = .ok (.lastore, 1) := by decide +kernel
theorem dL_share_10 : decode cL_share 10 = .ok (.goto 15, 3) := by decide +kernel
theorem dL_share_13 : decode cL_share 13 = .ok (.astore 4, 2) := by decide +kernel
theorem dL_share_15 : decode cL_share 15 = .ok (.iconst 1, 1) := by decide +kernel
theorem dL_share_16 : decode cL_share 16 = .ok (.ireturn, 1) := by decide +kernel
theorem dL_share_17 : decode cL_share 17 = .ok (.astore 4, 2) := by decide +kernel
theorem dL_share_19 : decode cL_share 19 = .ok (.iconst 2, 1) := by decide +kernel
theorem dL_share_20 : decode cL_share 20 = .ok (.ireturn, 1) := by decide +kernel
theorem dL_share_21 : decode cL_share 21 = .ok (.astore 4, 2) := by decide +kernel
theorem dL_share_23 : decode cL_share 23 = .ok (.iconst 3, 1) := by decide +kernel
theorem dL_share_24 : decode cL_share 24 = .ok (.ireturn, 1) := by decide +kernel
theorem dL_share_25 : decode cL_share 25 = .ok (.iconst 0, 1) := by decide +kernel
theorem dL_share_26 : decode cL_share 26 = .ok (.ireturn, 1) := by decide +kernel
theorem dL_trailer_0 : decode cL_trailer 0 = .ok (.aload_n 3, 1) := by decide +kernel
theorem dL_trailer_1 : decode cL_trailer 1 = .ok (.iconst 0, 1) := by decide +kernel
theorem dL_trailer_2 : decode cL_trailer 2 = .ok (.aload_n 0, 1) := by decide +kernel
theorem dL_trailer_3 : decode cL_trailer 3 = .ok (.iload_n 1, 1) := by decide +kernel
theorem dL_trailer_4 : decode cL_trailer 4 = .ok (.iload_n 2, 1) := by decide +kernel
theorem dL_trailer_5 : decode cL_trailer 5 = .ok (.invokevirtual 52, 3) := by decide +kernel
theorem dL_trailer_8 : decode cL_trailer 8 = .ok (.i2l, 1) := by decide +kernel
theorem dL_trailer_9 : decode cL_trailer 9 = .ok (.lastore, 1) := by decide +kernel
theorem dL_trailer_10 : decode cL_trailer 10 = .ok (.goto 11, 3) := by decide +kernel
theorem dL_trailer_13 : decode cL_trailer 13 = .ok (.astore 4, 2) := by decide +kernel
theorem dL_trailer_15 : decode cL_trailer 15 = .ok (.iconst 1, 1) := by decide +kernel
theorem dL_trailer_16 : decode cL_trailer 16 = .ok (.ireturn, 1) := by decide +kernel
theorem dL_trailer_17 : decode cL_trailer 17 = .ok (.astore 4, 2) := by decide +kernel
theorem dL_trailer_19 : decode cL_trailer 19 = .ok (.iconst 2, 1) := by decide +kernel
theorem dL_trailer_20 : decode cL_trailer 20 = .ok (.ireturn, 1) := by decide +kernel
theorem dL_trailer_21 : decode cL_trailer 21 = .ok (.iconst 0, 1) := by decide +kernel
theorem dL_trailer_22 : decode cL_trailer 22 = .ok (.ireturn, 1) := by decide +kernel
theorem dL_fits_0 : decode cL_fits 0 = .ok (.aload 4, 2) := by decide +kernel
theorem dL_fits_2 : decode cL_fits 2 = .ok (.iconst 0, 1) := by decide +kernel
theorem dL_fits_3 : decode cL_fits 3 = .ok (.aload_n 0, 1) := by decide +kernel
theorem dL_fits_4 : decode cL_fits 4 = .ok (.iload_n 1, 1) := by decide +kernel
theorem dL_fits_5 : decode cL_fits 5 = .ok (.iload_n 2, 1) := by decide +kernel
theorem dL_fits_6 : decode cL_fits 6 = .ok (.iload_n 3, 1) := by decide +kernel
theorem dL_fits_7 : decode cL_fits 7 = .ok (.invokevirtual 55, 3) := by decide +kernel
theorem dL_fits_10 : decode cL_fits 10 = .ok (.ifCond .eq 7, 3) := by decide +kernel
theorem dL_fits_13 : decode cL_fits 13 = .ok (.lconst 1, 1) := by decide +kernel
theorem dL_fits_14 : decode cL_fits 14 = .ok (.goto 4, 3) := by decide +kernel
theorem dL_fits_17 : decode cL_fits 17 = .ok (.lconst 0, 1) := by decide +kernel
theorem dL_fits_18 : decode cL_fits 18 = .ok (.lastore, 1) := by decide +kernel
theorem dL_fits_19 : decode cL_fits 19 = .ok (.goto 11, 3) := by decide +kernel
theorem dL_fits_22 : decode cL_fits 22 = .ok (.astore 5, 2) := by decide +kernel
theorem dL_fits_24 : decode cL_fits 24 = .ok (.iconst 1, 1) := by decide +kernel
theorem dL_fits_25 : decode cL_fits 25 = .ok (.ireturn, 1) := by decide +kernel
theorem dL_fits_26 : decode cL_fits 26 = .ok (.astore 5, 2) := by decide +kernel
theorem dL_fits_28 : decode cL_fits 28 = .ok (.iconst 2, 1) := by decide +kernel
theorem dL_fits_29 : decode cL_fits 29 = .ok (.ireturn, 1) := by decide +kernel
theorem dL_fits_30 : decode cL_fits 30 = .ok (.iconst 0, 1) := by decide +kernel
theorem dL_fits_31 : decode cL_fits 31 = .ok (.ireturn, 1) := by decide +kernel
theorem dL_reel_0 : decode cL_reel 0 = .ok (.aload 4, 2) := by decide +kernel
theorem dL_reel_2 : decode cL_reel 2 = .ok (.iconst 0, 1) := by decide +kernel
theorem dL_reel_3 : decode cL_reel 3 = .ok (.aload_n 0, 1) := by decide +kernel
theorem dL_reel_4 : decode cL_reel 4 = .ok (.iload_n 1, 1) := by decide +kernel
theorem dL_reel_5 : decode cL_reel 5 = .ok (.iload_n 2, 1) := by decide +kernel
theorem dL_reel_6 : decode cL_reel 6 = .ok (.iload_n 3, 1) := by decide +kernel
theorem dL_reel_7 : decode cL_reel 7 = .ok (.invokevirtual 59, 3) := by decide +kernel
theorem dL_reel_10 : decode cL_reel 10 = .ok (.i2l, 1) := by decide +kernel
theorem dL_reel_11 : decode cL_reel 11 = .ok (.lastore, 1) := by decide +kernel
theorem dL_reel_12 : decode cL_reel 12 = .ok (.goto 11, 3) := by decide +kernel
theorem dL_reel_15 : decode cL_reel 15 = .ok (.astore 5, 2) := by decide +kernel
theorem dL_reel_17 : decode cL_reel 17 = .ok (.iconst 1, 1) := by decide +kernel
theorem dL_reel_18 : decode cL_reel 18 = .ok (.ireturn, 1) := by decide +kernel
theorem dL_reel_19 : decode cL_reel 19 = .ok (.astore 5, 2) := by decide +kernel
theorem dL_reel_21 : decode cL_reel 21 = .ok (.iconst 2, 1) := by decide +kernel
theorem dL_reel_22 : decode cL_reel 22 = .ok (.ireturn, 1) := by decide +kernel
theorem dL_reel_23 : decode cL_reel 23 = .ok (.iconst 0, 1) := by decide +kernel
theorem dL_reel_24 : decode cL_reel 24 = .ok (.ireturn, 1) := by decide +kernel
theorem dL_plan_0 : decode cL_plan 0 = .ok (.aload 5, 2) := by decide +kernel
theorem dL_plan_2 : decode cL_plan 2 = .ok (.iconst 0, 1) := by decide +kernel
theorem dL_plan_3 : decode cL_plan 3 = .ok (.aload_n 0, 1) := by decide +kernel
theorem dL_plan_4 : decode cL_plan 4 = .ok (.iload_n 1, 1) := by decide +kernel
theorem dL_plan_5 : decode cL_plan 5 = .ok (.iload_n 2, 1) := by decide +kernel
theorem dL_plan_6 : decode cL_plan 6 = .ok (.iload_n 3, 1) := by decide +kernel
theorem dL_plan_7 : decode cL_plan 7 = .ok (.iload 4, 2) := by decide +kernel
theorem dL_plan_9 : decode cL_plan 9 = .ok (.invokevirtual 63, 3) := by decide +kernel
theorem dL_plan_12 : decode cL_plan 12 = .ok (.i2l, 1) := by decide +kernel
theorem dL_plan_13 : decode cL_plan 13 = .ok (.lastore, 1) := by decide +kernel
theorem dL_plan_14 : decode cL_plan 14 = .ok (.goto 15, 3) := by decide +kernel
theorem dL_plan_17 : decode cL_plan 17 = .ok (.astore 6, 2) := by decide +kernel
theorem dL_plan_19 : decode cL_plan 19 = .ok (.iconst 1, 1) := by decide +kernel
theorem dL_plan_20 : decode cL_plan 20 = .ok (.ireturn, 1) := by decide +kernel
theorem dL_plan_21 : decode cL_plan 21 = .ok (.astore 6, 2) := by decide +kernel
theorem dL_plan_23 : decode cL_plan 23 = .ok (.iconst 2, 1) := by decide +kernel
theorem dL_plan_24 : decode cL_plan 24 = .ok (.ireturn, 1) := by decide +kernel
theorem dL_plan_25 : decode cL_plan 25 = .ok (.astore 6, 2) := by decide +kernel
theorem dL_plan_27 : decode cL_plan 27 = .ok (.iconst 3, 1) := by decide +kernel
theorem dL_plan_28 : decode cL_plan 28 = .ok (.ireturn, 1) := by decide +kernel
theorem dL_plan_29 : decode cL_plan 29 = .ok (.iconst 0, 1) := by decide +kernel
theorem dL_plan_30 : decode cL_plan 30 = .ok (.ireturn, 1) := by decide +kernel
theorem dL_move_0 : decode cL_move 0 = .ok (.aload 4, 2) := by decide +kernel
theorem dL_move_2 : decode cL_move 2 = .ok (.iconst 0, 1) := by decide +kernel
theorem dL_move_3 : decode cL_move 3 = .ok (.aload_n 0, 1) := by decide +kernel
theorem dL_move_4 : decode cL_move 4 = .ok (.iload_n 1, 1) := by decide +kernel
theorem dL_move_5 : decode cL_move 5 = .ok (.iload_n 2, 1) := by decide +kernel
theorem dL_move_6 : decode cL_move 6 = .ok (.iload_n 3, 1) := by decide +kernel
theorem dL_move_7 : decode cL_move 7 = .ok (.invokevirtual 68, 3) := by decide +kernel
theorem dL_move_10 : decode cL_move 10 = .ok (.i2l, 1) := by decide +kernel
theorem dL_move_11 : decode cL_move 11 = .ok (.lastore, 1) := by decide +kernel
theorem dL_move_12 : decode cL_move 12 = .ok (.goto 19, 3) := by decide +kernel
theorem dL_move_15 : decode cL_move 15 = .ok (.astore 5, 2) := by decide +kernel
theorem dL_move_17 : decode cL_move 17 = .ok (.iconst 1, 1) := by decide +kernel
theorem dL_move_18 : decode cL_move 18 = .ok (.ireturn, 1) := by decide +kernel
theorem dL_move_19 : decode cL_move 19 = .ok (.astore 5, 2) := by decide +kernel
theorem dL_move_21 : decode cL_move 21 = .ok (.iconst 2, 1) := by decide +kernel
theorem dL_move_22 : decode cL_move 22 = .ok (.ireturn, 1) := by decide +kernel
theorem dL_move_23 : decode cL_move 23 = .ok (.astore 5, 2) := by decide +kernel
theorem dL_move_25 : decode cL_move 25 = .ok (.iconst 3, 1) := by decide +kernel
theorem dL_move_26 : decode cL_move 26 = .ok (.ireturn, 1) := by decide +kernel
theorem dL_move_27 : decode cL_move 27 = .ok (.astore 5, 2) := by decide +kernel
theorem dL_move_29 : decode cL_move 29 = .ok (.iconst 4, 1) := by decide +kernel
theorem dL_move_30 : decode cL_move 30 = .ok (.ireturn, 1) := by decide +kernel
theorem dL_move_31 : decode cL_move 31 = .ok (.iconst 0, 1) := by decide +kernel
theorem dL_move_32 : decode cL_move 32 = .ok (.ireturn, 1) := by decide +kernel
theorem dL_cancel_0 : decode cL_cancel 0 = .ok (.aload_n 2, 1) := by decide +kernel
theorem dL_cancel_1 : decode cL_cancel 1 = .ok (.iconst 0, 1) := by decide +kernel
theorem dL_cancel_2 : decode cL_cancel 2 = .ok (.aload_n 0, 1) := by decide +kernel
theorem dL_cancel_3 : decode cL_cancel 3 = .ok (.iload_n 1, 1) := by decide +kernel
theorem dL_cancel_4 : decode cL_cancel 4 = .ok (.invokevirtual 71, 3) := by decide +kernel
theorem dL_cancel_7 : decode cL_cancel 7 = .ok (.i2l, 1) := by decide +kernel
theorem dL_cancel_8 : decode cL_cancel 8 = .ok (.lastore, 1) := by decide +kernel
theorem dL_cancel_9 : decode cL_cancel 9 = .ok (.goto 9, 3) := by decide +kernel
theorem dL_cancel_12 : decode cL_cancel 12 = .ok (.astore_n 3, 1) := by decide +kernel
theorem dL_cancel_13 : decode cL_cancel 13 = .ok (.iconst 1, 1) := by decide +kernel
theorem dL_cancel_14 : decode cL_cancel 14 = .ok (.ireturn, 1) := by decide +kernel
theorem dL_cancel_15 : decode cL_cancel 15 = .ok (.astore_n 3, 1) := by decide +kernel
theorem dL_cancel_16 : decode cL_cancel 16 = .ok (.iconst 2, 1) := by decide +kernel
theorem dL_cancel_17 : decode cL_cancel 17 = .ok (.ireturn, 1) := by decide +kernel
theorem dL_cancel_18 : decode cL_cancel 18 = .ok (.iconst 0, 1) := by decide +kernel
theorem dL_cancel_19 : decode cL_cancel 19 = .ok (.ireturn, 1) := by decide +kernel
theorem dL_sell_0 : decode cL_sell 0 = .ok (.aload_n 3, 1) := by decide +kernel
theorem dL_sell_1 : decode cL_sell 1 = .ok (.iconst 0, 1) := by decide +kernel
theorem dL_sell_2 : decode cL_sell 2 = .ok (.aload_n 0, 1) := by decide +kernel
theorem dL_sell_3 : decode cL_sell 3 = .ok (.iload_n 1, 1) := by decide +kernel
theorem dL_sell_4 : decode cL_sell 4 = .ok (.iload_n 2, 1) := by decide +kernel
theorem dL_sell_5 : decode cL_sell 5 = .ok (.invokevirtual 74, 3) := by decide +kernel
theorem dL_sell_8 : decode cL_sell 8 = .ok (.i2l, 1) := by decide +kernel
theorem dL_sell_9 : decode cL_sell 9 = .ok (.lastore, 1) := by decide +kernel
theorem dL_sell_10 : decode cL_sell 10 = .ok (.goto 19, 3) := by decide +kernel
theorem dL_sell_13 : decode cL_sell 13 = .ok (.astore 4, 2) := by decide +kernel
theorem dL_sell_15 : decode cL_sell 15 = .ok (.iconst 1, 1) := by decide +kernel
theorem dL_sell_16 : decode cL_sell 16 = .ok (.ireturn, 1) := by decide +kernel
theorem dL_sell_17 : decode cL_sell 17 = .ok (.astore 4, 2) := by decide +kernel
theorem dL_sell_19 : decode cL_sell 19 = .ok (.iconst 2, 1) := by decide +kernel
theorem dL_sell_20 : decode cL_sell 20 = .ok (.ireturn, 1) := by decide +kernel
theorem dL_sell_21 : decode cL_sell 21 = .ok (.astore 4, 2) := by decide +kernel
theorem dL_sell_23 : decode cL_sell 23 = .ok (.iconst 3, 1) := by decide +kernel
theorem dL_sell_24 : decode cL_sell 24 = .ok (.ireturn, 1) := by decide +kernel
theorem dL_sell_25 : decode cL_sell 25 = .ok (.astore 4, 2) := by decide +kernel
theorem dL_sell_27 : decode cL_sell 27 = .ok (.iconst 4, 1) := by decide +kernel
theorem dL_sell_28 : decode cL_sell 28 = .ok (.ireturn, 1) := by decide +kernel
theorem dL_sell_29 : decode cL_sell 29 = .ok (.iconst 0, 1) := by decide +kernel
theorem dL_sell_30 : decode cL_sell 30 = .ok (.ireturn, 1) := by decide +kernel
theorem dL_show_0 : decode cL_show 0 = .ok (.aload_n 3, 1) := by decide +kernel
theorem dL_show_1 : decode cL_show 1 = .ok (.iconst 0, 1) := by decide +kernel
theorem dL_show_2 : decode cL_show 2 = .ok (.aload_n 0, 1) := by decide +kernel
theorem dL_show_3 : decode cL_show 3 = .ok (.iload_n 1, 1) := by decide +kernel
theorem dL_show_4 : decode cL_show 4 = .ok (.iload_n 2, 1) := by decide +kernel
theorem dL_show_5 : decode cL_show 5 = .ok (.invokevirtual 77, 3) := by decide +kernel
theorem dL_show_8 : decode cL_show 8 = .ok (.i2l, 1) := by decide +kernel
theorem dL_show_9 : decode cL_show 9 = .ok (.lastore, 1) := by decide +kernel
theorem dL_show_10 : decode cL_show 10 = .ok (.goto 11, 3) := by decide +kernel
theorem dL_show_13 : decode cL_show 13 = .ok (.astore 4, 2) := by decide +kernel
theorem dL_show_15 : decode cL_show 15 = .ok (.iconst 1, 1) := by decide +kernel
theorem dL_show_16 : decode cL_show 16 = .ok (.ireturn, 1) := by decide +kernel
theorem dL_show_17 : decode cL_show 17 = .ok (.astore 4, 2) := by decide +kernel
theorem dL_show_19 : decode cL_show 19 = .ok (.iconst 2, 1) := by decide +kernel
theorem dL_show_20 : decode cL_show 20 = .ok (.ireturn, 1) := by decide +kernel
theorem dL_show_21 : decode cL_show 21 = .ok (.iconst 0, 1) := by decide +kernel
theorem dL_show_22 : decode cL_show 22 = .ok (.ireturn, 1) := by decide +kernel
theorem dL_why_0 : decode cL_why 0 = .ok (.aload 6, 2) := by decide +kernel
theorem dL_why_2 : decode cL_why 2 = .ok (.iconst 0, 1) := by decide +kernel
theorem dL_why_3 : decode cL_why 3 = .ok (.aload_n 0, 1) := by decide +kernel
theorem dL_why_4 : decode cL_why 4 = .ok (.iload_n 1, 1) := by decide +kernel
theorem dL_why_5 : decode cL_why 5 = .ok (.iload_n 2, 1) := by decide +kernel
theorem dL_why_6 : decode cL_why 6 = .ok (.iload_n 3, 1) := by decide +kernel
theorem dL_why_7 : decode cL_why 7 = .ok (.iload 4, 2) := by decide +kernel
theorem dL_why_9 : decode cL_why 9 = .ok (.iload 5, 2) := by decide +kernel
theorem dL_why_11 : decode cL_why 11 = .ok (.invokevirtual 80, 3) := by decide +kernel
theorem dL_why_14 : decode cL_why 14 = .ok (.i2l, 1) := by decide +kernel
theorem dL_why_15 : decode cL_why 15 = .ok (.lastore, 1) := by decide +kernel
theorem dL_why_16 : decode cL_why 16 = .ok (.goto 11, 3) := by decide +kernel
theorem dL_why_19 : decode cL_why 19 = .ok (.astore 7, 2) := by decide +kernel
theorem dL_why_21 : decode cL_why 21 = .ok (.iconst 1, 1) := by decide +kernel
theorem dL_why_22 : decode cL_why 22 = .ok (.ireturn, 1) := by decide +kernel
theorem dL_why_23 : decode cL_why 23 = .ok (.astore 7, 2) := by decide +kernel
theorem dL_why_25 : decode cL_why 25 = .ok (.iconst 2, 1) := by decide +kernel
theorem dL_why_26 : decode cL_why 26 = .ok (.ireturn, 1) := by decide +kernel
theorem dL_why_27 : decode cL_why 27 = .ok (.iconst 0, 1) := by decide +kernel
theorem dL_why_28 : decode cL_why 28 = .ok (.ireturn, 1) := by decide +kernel
theorem dL_firstStart_0 : decode cL_firstStart 0 = .ok (.aload 5, 2) := by decide +kernel
theorem dL_firstStart_2 : decode cL_firstStart 2 = .ok (.iconst 0, 1) := by decide +kernel
theorem dL_firstStart_3 : decode cL_firstStart 3 = .ok (.aload_n 0, 1) := by decide +kernel
theorem dL_firstStart_4 : decode cL_firstStart 4 = .ok (.iload_n 1, 1) := by decide +kernel
theorem dL_firstStart_5 : decode cL_firstStart 5 = .ok (.iload_n 2, 1) := by decide +kernel
theorem dL_firstStart_6 : decode cL_firstStart 6 = .ok (.iload_n 3, 1) := by decide +kernel
theorem dL_firstStart_7 : decode cL_firstStart 7 = .ok (.iload 4, 2) := by decide +kernel
theorem dL_firstStart_9 : decode cL_firstStart 9 = .ok (.invokevirtual 84, 3) := by decide +kernel
theorem dL_firstStart_12 : decode cL_firstStart 12 = .ok (.i2l, 1) := by decide +kernel
theorem dL_firstStart_13 : decode cL_firstStart 13 = .ok (.lastore, 1) := by decide +kernel
theorem dL_firstStart_14 : decode cL_firstStart 14 = .ok (.goto 15, 3) := by decide +kernel
theorem dL_firstStart_17 : decode cL_firstStart 17 = .ok (.astore 6, 2) := by decide +kernel
theorem dL_firstStart_19 : decode cL_firstStart 19 = .ok (.iconst 1, 1) := by decide +kernel
theorem dL_firstStart_20 : decode cL_firstStart 20 = .ok (.ireturn, 1) := by decide +kernel
theorem dL_firstStart_21 : decode cL_firstStart 21 = .ok (.astore 6, 2) := by decide +kernel
theorem dL_firstStart_23 : decode cL_firstStart 23 = .ok (.iconst 2, 1) := by decide +kernel
theorem dL_firstStart_24 : decode cL_firstStart 24 = .ok (.ireturn, 1) := by decide +kernel
theorem dL_firstStart_25 : decode cL_firstStart 25 = .ok (.astore 6, 2) := by decide +kernel
theorem dL_firstStart_27 : decode cL_firstStart 27 = .ok (.iconst 3, 1) := by decide +kernel
theorem dL_firstStart_28 : decode cL_firstStart 28 = .ok (.ireturn, 1) := by decide +kernel
theorem dL_firstStart_29 : decode cL_firstStart 29 = .ok (.iconst 0, 1) := by decide +kernel
theorem dL_firstStart_30 : decode cL_firstStart 30 = .ok (.ireturn, 1) := by decide +kernel
theorem dL_fail_0 : decode cL_fail 0 = .ok (.aload_n 3, 1) := by decide +kernel
theorem dL_fail_1 : decode cL_fail 1 = .ok (.iconst 0, 1) := by decide +kernel
theorem dL_fail_2 : decode cL_fail 2 = .ok (.aload_n 0, 1) := by decide +kernel
theorem dL_fail_3 : decode cL_fail 3 = .ok (.iload_n 1, 1) := by decide +kernel
theorem dL_fail_4 : decode cL_fail 4 = .ok (.iload_n 2, 1) := by decide +kernel
theorem dL_fail_5 : decode cL_fail 5 = .ok (.invokevirtual 87, 3) := by decide +kernel
theorem dL_fail_8 : decode cL_fail 8 = .ok (.i2l, 1) := by decide +kernel
theorem dL_fail_9 : decode cL_fail 9 = .ok (.lastore, 1) := by decide +kernel
theorem dL_fail_10 : decode cL_fail 10 = .ok (.goto 15, 3) := by decide +kernel
theorem dL_fail_13 : decode cL_fail 13 = .ok (.astore 4, 2) := by decide +kernel
theorem dL_fail_15 : decode cL_fail 15 = .ok (.iconst 1, 1) := by decide +kernel
theorem dL_fail_16 : decode cL_fail 16 = .ok (.ireturn, 1) := by decide +kernel
theorem dL_fail_17 : decode cL_fail 17 = .ok (.astore 4, 2) := by decide +kernel
theorem dL_fail_19 : decode cL_fail 19 = .ok (.iconst 2, 1) := by decide +kernel
theorem dL_fail_20 : decode cL_fail 20 = .ok (.ireturn, 1) := by decide +kernel
theorem dL_fail_21 : decode cL_fail 21 = .ok (.astore 4, 2) := by decide +kernel
theorem dL_fail_23 : decode cL_fail 23 = .ok (.iconst 3, 1) := by decide +kernel
theorem dL_fail_24 : decode cL_fail 24 = .ok (.ireturn, 1) := by decide +kernel
theorem dL_fail_25 : decode cL_fail 25 = .ok (.iconst 0, 1) := by decide +kernel
theorem dL_fail_26 : decode cL_fail 26 = .ok (.ireturn, 1) := by decide +kernel
theorem dL_reopen_0 : decode cL_reopen 0 = .ok (.aload_n 2, 1) := by decide +kernel
theorem dL_reopen_1 : decode cL_reopen 1 = .ok (.iconst 0, 1) := by decide +kernel
theorem dL_reopen_2 : decode cL_reopen 2 = .ok (.aload_n 0, 1) := by decide +kernel
theorem dL_reopen_3 : decode cL_reopen 3 = .ok (.iload_n 1, 1) := by decide +kernel
theorem dL_reopen_4 : decode cL_reopen 4 = .ok (.invokevirtual 90, 3) := by decide +kernel
theorem dL_reopen_7 : decode cL_reopen 7 = .ok (.i2l, 1) := by decide +kernel
theorem dL_reopen_8 : decode cL_reopen 8 = .ok (.lastore, 1) := by decide +kernel
theorem dL_reopen_9 : decode cL_reopen 9 = .ok (.goto 9, 3) := by decide +kernel
theorem dL_reopen_12 : decode cL_reopen 12 = .ok (.astore_n 3, 1) := by decide +kernel
theorem dL_reopen_13 : decode cL_reopen 13 = .ok (.iconst 1, 1) := by decide +kernel
theorem dL_reopen_14 : decode cL_reopen 14 = .ok (.ireturn, 1) := by decide +kernel
theorem dL_reopen_15 : decode cL_reopen 15 = .ok (.astore_n 3, 1) := by decide +kernel
theorem dL_reopen_16 : decode cL_reopen 16 = .ok (.iconst 2, 1) := by decide +kernel
theorem dL_reopen_17 : decode cL_reopen 17 = .ok (.ireturn, 1) := by decide +kernel
theorem dL_reopen_18 : decode cL_reopen 18 = .ok (.iconst 0, 1) := by decide +kernel
theorem dL_reopen_19 : decode cL_reopen 19 = .ok (.ireturn, 1) := by decide +kernel
theorem dL_line_0 : decode cL_line 0 = .ok (.aload_n 3, 1) := by decide +kernel
theorem dL_line_1 : decode cL_line 1 = .ok (.iconst 0, 1) := by decide +kernel
theorem dL_line_2 : decode cL_line 2 = .ok (.aload_n 0, 1) := by decide +kernel
theorem dL_line_3 : decode cL_line 3 = .ok (.iload_n 1, 1) := by decide +kernel
theorem dL_line_4 : decode cL_line 4 = .ok (.iload_n 2, 1) := by decide +kernel
theorem dL_line_5 : decode cL_line 5 = .ok (.invokevirtual 93, 3) := by decide +kernel
theorem dL_line_8 : decode cL_line 8 = .ok (.i2l, 1) := by decide +kernel
theorem dL_line_9 : decode cL_line 9 = .ok (.lastore, 1) := by decide +kernel
theorem dL_line_10 : decode cL_line 10 = .ok (.goto 11, 3) := by decide +kernel
theorem dL_line_13 : decode cL_line 13 = .ok (.astore 4, 2) := by decide +kernel
theorem dL_line_15 : decode cL_line 15 = .ok (.iconst 1, 1) := by decide +kernel
theorem dL_line_16 : decode cL_line 16 = .ok (.ireturn, 1) := by decide +kernel
theorem dL_line_17 : decode cL_line 17 = .ok (.astore 4, 2) := by decide +kernel
theorem dL_line_19 : decode cL_line 19 = .ok (.iconst 2, 1) := by decide +kernel
theorem dL_line_20 : decode cL_line 20 = .ok (.ireturn, 1) := by decide +kernel
theorem dL_line_21 : decode cL_line 21 = .ok (.iconst 0, 1) := by decide +kernel
theorem dL_line_22 : decode cL_line 22 = .ok (.ireturn, 1) := by decide +kernel
theorem dL_used_0 : decode cL_used 0 = .ok (.aload 4, 2) := by decide +kernel
theorem dL_used_2 : decode cL_used 2 = .ok (.iconst 0, 1) := by decide +kernel
theorem dL_used_3 : decode cL_used 3 = .ok (.aload_n 0, 1) := by decide +kernel
theorem dL_used_4 : decode cL_used 4 = .ok (.iload_n 1, 1) := by decide +kernel
theorem dL_used_5 : decode cL_used 5 = .ok (.iload_n 2, 1) := by decide +kernel
theorem dL_used_6 : decode cL_used 6 = .ok (.iload_n 3, 1) := by decide +kernel
theorem dL_used_7 : decode cL_used 7 = .ok (.invokevirtual 96, 3) := by decide +kernel
theorem dL_used_10 : decode cL_used 10 = .ok (.i2l, 1) := by decide +kernel
theorem dL_used_11 : decode cL_used 11 = .ok (.lastore, 1) := by decide +kernel
theorem dL_used_12 : decode cL_used 12 = .ok (.goto 11, 3) := by decide +kernel
theorem dL_used_15 : decode cL_used 15 = .ok (.astore 5, 2) := by decide +kernel
theorem dL_used_17 : decode cL_used 17 = .ok (.iconst 1, 1) := by decide +kernel
theorem dL_used_18 : decode cL_used 18 = .ok (.ireturn, 1) := by decide +kernel
theorem dL_used_19 : decode cL_used 19 = .ok (.astore 5, 2) := by decide +kernel
theorem dL_used_21 : decode cL_used 21 = .ok (.iconst 2, 1) := by decide +kernel
theorem dL_used_22 : decode cL_used 22 = .ok (.ireturn, 1) := by decide +kernel
theorem dL_used_23 : decode cL_used 23 = .ok (.iconst 0, 1) := by decide +kernel
theorem dL_used_24 : decode cL_used 24 = .ok (.ireturn, 1) := by decide +kernel
theorem dL_at_0 : decode cL_at 0 = .ok (.aload 4, 2) := by decide +kernel
theorem dL_at_2 : decode cL_at 2 = .ok (.iconst 0, 1) := by decide +kernel
theorem dL_at_3 : decode cL_at 3 = .ok (.aload_n 0, 1) := by decide +kernel
theorem dL_at_4 : decode cL_at 4 = .ok (.iload_n 1, 1) := by decide +kernel
theorem dL_at_5 : decode cL_at 5 = .ok (.iload_n 2, 1) := by decide +kernel
theorem dL_at_6 : decode cL_at 6 = .ok (.iload_n 3, 1) := by decide +kernel
theorem dL_at_7 : decode cL_at 7 = .ok (.invokevirtual 99, 3) := by decide +kernel
theorem dL_at_10 : decode cL_at 10 = .ok (.i2l, 1) := by decide +kernel
theorem dL_at_11 : decode cL_at 11 = .ok (.lastore, 1) := by decide +kernel
theorem dL_at_12 : decode cL_at 12 = .ok (.goto 7, 3) := by decide +kernel
theorem dL_at_15 : decode cL_at 15 = .ok (.astore 5, 2) := by decide +kernel
theorem dL_at_17 : decode cL_at 17 = .ok (.iconst 1, 1) := by decide +kernel
theorem dL_at_18 : decode cL_at 18 = .ok (.ireturn, 1) := by decide +kernel
theorem dL_at_19 : decode cL_at 19 = .ok (.iconst 0, 1) := by decide +kernel
theorem dL_at_20 : decode cL_at 20 = .ok (.ireturn, 1) := by decide +kernel
theorem dL_refusal_0 : decode cL_refusal 0 = .ok (.aload_n 2, 1) := by decide +kernel
theorem dL_refusal_1 : decode cL_refusal 1 = .ok (.iconst 0, 1) := by decide +kernel
theorem dL_refusal_2 : decode cL_refusal 2 = .ok (.aload_n 0, 1) := by decide +kernel
theorem dL_refusal_3 : decode cL_refusal 3 = .ok (.iload_n 1, 1) := by decide +kernel
theorem dL_refusal_4 : decode cL_refusal 4 = .ok (.invokevirtual 102, 3) := by decide +kernel
theorem dL_refusal_7 : decode cL_refusal 7 = .ok (.i2l, 1) := by decide +kernel
theorem dL_refusal_8 : decode cL_refusal 8 = .ok (.lastore, 1) := by decide +kernel
theorem dL_refusal_9 : decode cL_refusal 9 = .ok (.goto 6, 3) := by decide +kernel
theorem dL_refusal_12 : decode cL_refusal 12 = .ok (.astore_n 3, 1) := by decide +kernel
theorem dL_refusal_13 : decode cL_refusal 13 = .ok (.iconst 1, 1) := by decide +kernel
theorem dL_refusal_14 : decode cL_refusal 14 = .ok (.ireturn, 1) := by decide +kernel
theorem dL_refusal_15 : decode cL_refusal 15 = .ok (.iconst 0, 1) := by decide +kernel
theorem dL_refusal_16 : decode cL_refusal 16 = .ok (.ireturn, 1) := by decide +kernel
theorem dL_advance_0 : decode cL_advance 0 = .ok (.aload_n 2, 1) := by decide +kernel
theorem dL_advance_1 : decode cL_advance 1 = .ok (.iconst 0, 1) := by decide +kernel
theorem dL_advance_2 : decode cL_advance 2 = .ok (.aload_n 0, 1) := by decide +kernel
theorem dL_advance_3 : decode cL_advance 3 = .ok (.iload_n 1, 1) := by decide +kernel
theorem dL_advance_4 : decode cL_advance 4 = .ok (.invokevirtual 106, 3) := by decide +kernel
theorem dL_advance_7 : decode cL_advance 7 = .ok (.i2l, 1) := by decide +kernel
theorem dL_advance_8 : decode cL_advance 8 = .ok (.lastore, 1) := by decide +kernel
theorem dL_advance_9 : decode cL_advance 9 = .ok (.goto 6, 3) := by decide +kernel
theorem dL_advance_12 : decode cL_advance 12 = .ok (.astore_n 3, 1) := by decide +kernel
theorem dL_advance_13 : decode cL_advance 13 = .ok (.iconst 1, 1) := by decide +kernel
theorem dL_advance_14 : decode cL_advance 14 = .ok (.ireturn, 1) := by decide +kernel
theorem dL_advance_15 : decode cL_advance 15 = .ok (.iconst 0, 1) := by decide +kernel
theorem dL_advance_16 : decode cL_advance 16 = .ok (.ireturn, 1) := by decide +kernel
theorem dL_account_0 : decode cL_account 0 = .ok (.aload_n 2, 1) := by decide +kernel
theorem dL_account_1 : decode cL_account 1 = .ok (.iconst 0, 1) := by decide +kernel
theorem dL_account_2 : decode cL_account 2 = .ok (.aload_n 0, 1) := by decide +kernel
theorem dL_account_3 : decode cL_account 3 = .ok (.iload_n 1, 1) := by decide +kernel
theorem dL_account_4 : decode cL_account 4 = .ok (.invokevirtual 109, 3) := by decide +kernel
theorem dL_account_7 : decode cL_account 7 = .ok (.i2l, 1) := by decide +kernel
theorem dL_account_8 : decode cL_account 8 = .ok (.lastore, 1) := by decide +kernel
theorem dL_account_9 : decode cL_account 9 = .ok (.goto 6, 3) := by decide +kernel
theorem dL_account_12 : decode cL_account 12 = .ok (.astore_n 3, 1) := by decide +kernel
theorem dL_account_13 : decode cL_account 13 = .ok (.iconst 1, 1) := by decide +kernel
theorem dL_account_14 : decode cL_account 14 = .ok (.ireturn, 1) := by decide +kernel
theorem dL_account_15 : decode cL_account 15 = .ok (.iconst 0, 1) := by decide +kernel
theorem dL_account_16 : decode cL_account 16 = .ok (.ireturn, 1) := by decide +kernel
theorem dL_bestFilm_0 : decode cL_bestFilm 0 = .ok (.aload_n 1, 1) := by decide +kernel
theorem dL_bestFilm_1 : decode cL_bestFilm 1 = .ok (.iconst 0, 1) := by decide +kernel
theorem dL_bestFilm_2 : decode cL_bestFilm 2 = .ok (.aload_n 0, 1) := by decide +kernel
theorem dL_bestFilm_3 : decode cL_bestFilm 3 = .ok (.invokevirtual 112, 3) := by decide +kernel
theorem dL_bestFilm_6 : decode cL_bestFilm 6 = .ok (.i2l, 1) := by decide +kernel
theorem dL_bestFilm_7 : decode cL_bestFilm 7 = .ok (.lastore, 1) := by decide +kernel
theorem dL_bestFilm_8 : decode cL_bestFilm 8 = .ok (.goto 6, 3) := by decide +kernel
theorem dL_bestFilm_11 : decode cL_bestFilm 11 = .ok (.astore_n 2, 1) := by decide +kernel
theorem dL_bestFilm_12 : decode cL_bestFilm 12 = .ok (.iconst 1, 1) := by decide +kernel
theorem dL_bestFilm_13 : decode cL_bestFilm 13 = .ok (.ireturn, 1) := by decide +kernel
theorem dL_bestFilm_14 : decode cL_bestFilm 14 = .ok (.iconst 0, 1) := by decide +kernel
theorem dL_bestFilm_15 : decode cL_bestFilm 15 = .ok (.ireturn, 1) := by decide +kernel
theorem dL_use_0 : decode cL_use 0 = .ok (.aload_n 1, 1) := by decide +kernel
theorem dL_use_1 : decode cL_use 1 = .ok (.iconst 0, 1) := by decide +kernel
theorem dL_use_2 : decode cL_use 2 = .ok (.aload_n 0, 1) := by decide +kernel
theorem dL_use_3 : decode cL_use 3 = .ok (.invokevirtual 116, 3) := by decide +kernel
theorem dL_use_6 : decode cL_use 6 = .ok (.dastore, 1) := by decide +kernel
theorem dL_use_7 : decode cL_use 7 = .ok (.goto 6, 3) := by decide +kernel
theorem dL_use_10 : decode cL_use 10 = .ok (.astore_n 2, 1) := by decide +kernel
theorem dL_use_11 : decode cL_use 11 = .ok (.iconst 1, 1) := by decide +kernel
theorem dL_use_12 : decode cL_use 12 = .ok (.ireturn, 1) := by decide +kernel
theorem dL_use_13 : decode cL_use 13 = .ok (.iconst 0, 1) := by decide +kernel
theorem dL_use_14 : decode cL_use 14 = .ok (.ireturn, 1) := by decide +kernel
theorem dL_write_0 : decode cL_write 0 = .ok (.aload_n 3, 1) := by decide +kernel
theorem dL_write_1 : decode cL_write 1 = .ok (.iconst 0, 1) := by decide +kernel
theorem dL_write_2 : decode cL_write 2 = .ok (.aload_n 0, 1) := by decide +kernel
theorem dL_write_3 : decode cL_write 3 = .ok (.iload_n 1, 1) := by decide +kernel
theorem dL_write_4 : decode cL_write 4 = .ok (.iload_n 2, 1) := by decide +kernel
theorem dL_write_5 : decode cL_write 5 = .ok (.invokevirtual 122, 3) := by decide +kernel
theorem dL_write_8 : decode cL_write 8 = .ok (.i2l, 1) := by decide +kernel
theorem dL_write_9 : decode cL_write 9 = .ok (.lastore, 1) := by decide +kernel
theorem dL_write_10 : decode cL_write 10 = .ok (.goto 11, 3) := by decide +kernel
theorem dL_write_13 : decode cL_write 13 = .ok (.astore 4, 2) := by decide +kernel
theorem dL_write_15 : decode cL_write 15 = .ok (.iconst 1, 1) := by decide +kernel
theorem dL_write_16 : decode cL_write 16 = .ok (.ireturn, 1) := by decide +kernel
theorem dL_write_17 : decode cL_write 17 = .ok (.astore 4, 2) := by decide +kernel
theorem dL_write_19 : decode cL_write 19 = .ok (.iconst 2, 1) := by decide +kernel
theorem dL_write_20 : decode cL_write 20 = .ok (.ireturn, 1) := by decide +kernel
theorem dL_write_21 : decode cL_write 21 = .ok (.iconst 0, 1) := by decide +kernel
theorem dL_write_22 : decode cL_write 22 = .ok (.ireturn, 1) := by decide +kernel
theorem dL_written_0 : decode cL_written 0 = .ok (.aload_n 2, 1) := by decide +kernel
theorem dL_written_1 : decode cL_written 1 = .ok (.iconst 0, 1) := by decide +kernel
theorem dL_written_2 : decode cL_written 2 = .ok (.aload_n 0, 1) := by decide +kernel
theorem dL_written_3 : decode cL_written 3 = .ok (.iload_n 1, 1) := by decide +kernel
theorem dL_written_4 : decode cL_written 4 = .ok (.invokevirtual 125, 3) := by decide +kernel
theorem dL_written_7 : decode cL_written 7 = .ok (.i2l, 1) := by decide +kernel
theorem dL_written_8 : decode cL_written 8 = .ok (.lastore, 1) := by decide +kernel
theorem dL_written_9 : decode cL_written 9 = .ok (.goto 6, 3) := by decide +kernel
theorem dL_written_12 : decode cL_written 12 = .ok (.astore_n 3, 1) := by decide +kernel
theorem dL_written_13 : decode cL_written 13 = .ok (.iconst 1, 1) := by decide +kernel
theorem dL_written_14 : decode cL_written 14 = .ok (.ireturn, 1) := by decide +kernel
theorem dL_written_15 : decode cL_written 15 = .ok (.iconst 0, 1) := by decide +kernel
theorem dL_written_16 : decode cL_written 16 = .ok (.ireturn, 1) := by decide +kernel
theorem dL_append_0 : decode cL_append 0 = .ok (.aload_n 2, 1) := by decide +kernel
theorem dL_append_1 : decode cL_append 1 = .ok (.iconst 0, 1) := by decide +kernel
theorem dL_append_2 : decode cL_append 2 = .ok (.aload_n 0, 1) := by decide +kernel
theorem dL_append_3 : decode cL_append 3 = .ok (.iload_n 1, 1) := by decide +kernel
theorem dL_append_4 : decode cL_append 4 = .ok (.invokevirtual 129, 3) := by decide +kernel
theorem dL_append_7 : decode cL_append 7 = .ok (.i2l, 1) := by decide +kernel
theorem dL_append_8 : decode cL_append 8 = .ok (.lastore, 1) := by decide +kernel
theorem dL_append_9 : decode cL_append 9 = .ok (.goto 9, 3) := by decide +kernel
theorem dL_append_12 : decode cL_append 12 = .ok (.astore_n 3, 1) := by decide +kernel
theorem dL_append_13 : decode cL_append 13 = .ok (.iconst 1, 1) := by decide +kernel
theorem dL_append_14 : decode cL_append 14 = .ok (.ireturn, 1) := by decide +kernel
theorem dL_append_15 : decode cL_append 15 = .ok (.astore_n 3, 1) := by decide +kernel
theorem dL_append_16 : decode cL_append 16 = .ok (.iconst 2, 1) := by decide +kernel
theorem dL_append_17 : decode cL_append 17 = .ok (.ireturn, 1) := by decide +kernel
theorem dL_append_18 : decode cL_append 18 = .ok (.iconst 0, 1) := by decide +kernel
theorem dL_append_19 : decode cL_append 19 = .ok (.ireturn, 1) := by decide +kernel
theorem dL_perform_0 : decode cL_perform 0 = .ok (.aload_n 1, 1) := by decide +kernel
theorem dL_perform_1 : decode cL_perform 1 = .ok (.iconst 0, 1) := by decide +kernel
theorem dL_perform_2 : decode cL_perform 2 = .ok (.aload_n 0, 1) := by decide +kernel
theorem dL_perform_3 : decode cL_perform 3 = .ok (.invokevirtual 133, 3) := by decide +kernel
theorem dL_perform_6 : decode cL_perform 6 = .ok (.i2l, 1) := by decide +kernel
theorem dL_perform_7 : decode cL_perform 7 = .ok (.lastore, 1) := by decide +kernel
theorem dL_perform_8 : decode cL_perform 8 = .ok (.goto 9, 3) := by decide +kernel
theorem dL_perform_11 : decode cL_perform 11 = .ok (.astore_n 2, 1) := by decide +kernel
theorem dL_perform_12 : decode cL_perform 12 = .ok (.iconst 1, 1) := by decide +kernel
theorem dL_perform_13 : decode cL_perform 13 = .ok (.ireturn, 1) := by decide +kernel
theorem dL_perform_14 : decode cL_perform 14 = .ok (.astore_n 2, 1) := by decide +kernel
theorem dL_perform_15 : decode cL_perform 15 = .ok (.iconst 2, 1) := by decide +kernel
theorem dL_perform_16 : decode cL_perform 16 = .ok (.ireturn, 1) := by decide +kernel
theorem dL_perform_17 : decode cL_perform 17 = .ok (.iconst 0, 1) := by decide +kernel
theorem dL_perform_18 : decode cL_perform 18 = .ok (.ireturn, 1) := by decide +kernel
theorem dL_errorPosition_0 : decode cL_errorPosition 0 = .ok (.aload_n 1, 1) := by decide +kernel
theorem dL_errorPosition_1 : decode cL_errorPosition 1 = .ok (.iconst 0, 1) := by decide +kernel
theorem dL_errorPosition_2 : decode cL_errorPosition 2 = .ok (.aload_n 0, 1) := by decide +kernel
theorem dL_errorPosition_3 : decode cL_errorPosition 3 = .ok (.invokevirtual 136, 3) := by decide +kernel
theorem dL_errorPosition_6 : decode cL_errorPosition 6 = .ok (.i2l, 1) := by decide +kernel
theorem dL_errorPosition_7 : decode cL_errorPosition 7 = .ok (.lastore, 1) := by decide +kernel
theorem dL_errorPosition_8 : decode cL_errorPosition 8 = .ok (.goto 6, 3) := by decide +kernel
theorem dL_errorPosition_11 : decode cL_errorPosition 11 = .ok (.astore_n 2, 1) := by decide +kernel
theorem dL_errorPosition_12 : decode cL_errorPosition 12 = .ok (.iconst 1, 1) := by decide +kernel
theorem dL_errorPosition_13 : decode cL_errorPosition 13 = .ok (.ireturn, 1) := by decide +kernel
theorem dL_errorPosition_14 : decode cL_errorPosition 14 = .ok (.iconst 0, 1) := by decide +kernel
theorem dL_errorPosition_15 : decode cL_errorPosition 15 = .ok (.ireturn, 1) := by decide +kernel
theorem dL_undo_0 : decode cL_undo 0 = .ok (.aload_n 1, 1) := by decide +kernel
theorem dL_undo_1 : decode cL_undo 1 = .ok (.iconst 0, 1) := by decide +kernel
theorem dL_undo_2 : decode cL_undo 2 = .ok (.aload_n 0, 1) := by decide +kernel
theorem dL_undo_3 : decode cL_undo 3 = .ok (.invokevirtual 139, 3) := by decide +kernel
theorem dL_undo_6 : decode cL_undo 6 = .ok (.i2l, 1) := by decide +kernel
theorem dL_undo_7 : decode cL_undo 7 = .ok (.lastore, 1) := by decide +kernel
theorem dL_undo_8 : decode cL_undo 8 = .ok (.goto 6, 3) := by decide +kernel
theorem dL_undo_11 : decode cL_undo 11 = .ok (.astore_n 2, 1) := by decide +kernel
theorem dL_undo_12 : decode cL_undo 12 = .ok (.iconst 1, 1) := by decide +kernel
theorem dL_undo_13 : decode cL_undo 13 = .ok (.ireturn, 1) := by decide +kernel
theorem dL_undo_14 : decode cL_undo 14 = .ok (.iconst 0, 1) := by decide +kernel
theorem dL_undo_15 : decode cL_undo 15 = .ok (.ireturn, 1) := by decide +kernel
theorem dL_restore_0 : decode cL_restore 0 = .ok (.aload_n 1, 1) := by decide +kernel
theorem dL_restore_1 : decode cL_restore 1 = .ok (.iconst 0, 1) := by decide +kernel
theorem dL_restore_2 : decode cL_restore 2 = .ok (.aload_n 0, 1) := by decide +kernel
theorem dL_restore_3 : decode cL_restore 3 = .ok (.invokevirtual 142, 3) := by decide +kernel
theorem dL_restore_6 : decode cL_restore 6 = .ok (.i2l, 1) := by decide +kernel
theorem dL_restore_7 : decode cL_restore 7 = .ok (.lastore, 1) := by decide +kernel
theorem dL_restore_8 : decode cL_restore 8 = .ok (.goto 6, 3) := by decide +kernel
theorem dL_restore_11 : decode cL_restore 11 = .ok (.astore_n 2, 1) := by decide +kernel
theorem dL_restore_12 : decode cL_restore 12 = .ok (.iconst 1, 1) := by decide +kernel
theorem dL_restore_13 : decode cL_restore 13 = .ok (.ireturn, 1) := by decide +kernel
theorem dL_restore_14 : decode cL_restore 14 = .ok (.iconst 0, 1) := by decide +kernel
theorem dL_restore_15 : decode cL_restore 15 = .ok (.ireturn, 1) := by decide +kernel
