theorem dX10_image_28 : decode cX10_image 28 = .ok (.ireturn, 1) := by decide +kernel
theorem dX10_image_29 : decode cX10_image 29 = .ok (.aload_n 0, 1) := by decide +kernel
theorem dX10_image_30 : decode cX10_image 30 = .ok (.getfield 51, 3) := by decide +kernel
theorem dX10_image_33 : decode cX10_image 33 = .ok (.iload_n 1, 1) := by decide +kernel
theorem dX10_image_34 : decode cX10_image 34 = .ok (.aload_n 0, 1) := by decide +kernel
theorem dX10_image_35 : decode cX10_image 35 = .ok (.getfield 44, 3) := by decide +kernel
theorem dX10_image_38 : decode cX10_image 38 = .ok (.invokevirtual 228, 3) := by decide +kernel
theorem dX10_image_41 : decode cX10_image 41 = .ok (.aload_n 0, 1) := by decide +kernel
theorem dX10_image_42 : decode cX10_image 42 = .ok (.getfield 44, 3) := by decide +kernel
theorem dX10_image_45 : decode cX10_image 45 = .ok (.getfield 212, 3) := by decide +kernel
theorem dX10_image_48 : decode cX10_image 48 = .ok (.ireturn, 1) := by decide +kernel
theorem dX10_restore_0 : decode cX10_restore 0 = .ok (.aload_n 0, 1) := by decide +kernel
theorem dX10_restore_1 : decode cX10_restore 1 = .ok (.getfield 51, 3) := by decide +kernel
theorem dX10_restore_4 : decode cX10_restore 4 = .ok (.getfield 161, 3) := by decide +kernel
theorem dX10_restore_7 : decode cX10_restore 7 = .ok (.iload_n 1, 1) := by decide +kernel
theorem dX10_restore_8 : decode cX10_restore 8 = .ok (.invokevirtual 90, 3) := by decide +kernel
theorem dX10_restore_11 : decode cX10_restore 11 = .ok (.ifCond .ne 5, 3) := by decide +kernel
theorem dX10_restore_14 : decode cX10_restore 14 = .ok (.iconst (-1), 1) := by decide +kernel
theorem dX10_restore_15 : decode cX10_restore 15 = .ok (.ireturn, 1) := by decide +kernel
theorem dX10_restore_16 : decode cX10_restore 16 = .ok (.aload_n 0, 1) := by decide +kernel
theorem dX10_restore_17 : decode cX10_restore 17 = .ok (.getfield 51, 3) := by decide +kernel
theorem dX10_restore_20 : decode cX10_restore 20 = .ok (.getfield 161, 3) := by decide +kernel
theorem dX10_restore_23 : decode cX10_restore 23 = .ok (.iload_n 1, 1) := by decide +kernel
theorem dX10_restore_24 : decode cX10_restore 24 = .ok (.invokevirtual 126, 3) := by decide +kernel
theorem dX10_restore_27 : decode cX10_restore 27 = .ok (.ifCond .ne 9, 3) := by decide +kernel
theorem dX10_restore_30 : decode cX10_restore 30 = .ok (.aload_n 0, 1) := by decide +kernel
theorem dX10_restore_31 : decode cX10_restore 31 = .ok (.iconst 1, 1) := by decide +kernel
theorem dX10_restore_32 : decode cX10_restore 32 = .ok (.invokevirtual 96, 3) := by decide +kernel
theorem dX10_restore_35 : decode cX10_restore 35 = .ok (.ireturn, 1) := by decide +kernel
theorem dX10_restore_36 : decode cX10_restore 36 = .ok (.aload_n 0, 1) := by decide +kernel
theorem dX10_restore_37 : decode cX10_restore 37 = .ok (.getfield 51, 3) := by decide +kernel
theorem dX10_restore_40 : decode cX10_restore 40 = .ok (.iload_n 1, 1) := by decide +kernel
theorem dX10_restore_41 : decode cX10_restore 41 = .ok (.aload_n 0, 1) := by decide +kernel
theorem dX10_restore_42 : decode cX10_restore 42 = .ok (.getfield 44, 3) := by decide +kernel
theorem dX10_restore_45 : decode cX10_restore 45 = .ok (.invokevirtual 232, 3) := by decide +kernel
theorem dX10_restore_48 : decode cX10_restore 48 = .ok (.aload_n 0, 1) := by decide +kernel
theorem dX10_restore_49 : decode cX10_restore 49 = .ok (.getfield 44, 3) := by decide +kernel
theorem dX10_restore_52 : decode cX10_restore 52 = .ok (.getfield 212, 3) := by decide +kernel
theorem dX10_restore_55 : decode cX10_restore 55 = .ok (.ireturn, 1) := by decide +kernel
theorem dX10_fits_0 : decode cX10_fits 0 = .ok (.aload_n 0, 1) := by decide +kernel
theorem dX10_fits_1 : decode cX10_fits 1 = .ok (.getfield 35, 3) := by decide +kernel
theorem dX10_fits_4 : decode cX10_fits 4 = .ok (.invokevirtual 215, 3) := by decide +kernel
theorem dX10_fits_7 : decode cX10_fits 7 = .ok (.ifCond .eq 6, 3) := by decide +kernel
theorem dX10_fits_10 : decode cX10_fits 10 = .ok (.bipush (-4), 2) := by decide +kernel
theorem dX10_fits_12 : decode cX10_fits 12 = .ok (.ireturn, 1) := by decide +kernel
theorem dX10_fits_13 : decode cX10_fits 13 = .ok (.aload_n 0, 1) := by decide +kernel
theorem dX10_fits_14 : decode cX10_fits 14 = .ok (.getfield 60, 3) := by decide +kernel
theorem dX10_fits_17 : decode cX10_fits 17 = .ok (.invokevirtual 235, 3) := by decide +kernel
theorem dX10_fits_20 : decode cX10_fits 20 = .ok (.aload_n 0, 1) := by decide +kernel
theorem dX10_fits_21 : decode cX10_fits 21 = .ok (.aload_n 0, 1) := by decide +kernel
theorem dX10_fits_22 : decode cX10_fits 22 = .ok (.getfield 60, 3) := by decide +kernel
theorem dX10_fits_25 : decode cX10_fits 25 = .ok (.getfield 238, 3) := by decide +kernel
theorem dX10_fits_28 : decode cX10_fits 28 = .ok (.putfield 111, 3) := by decide +kernel
theorem dX10_fits_31 : decode cX10_fits 31 = .ok (.aload_n 0, 1) := by decide +kernel
theorem dX10_fits_32 : decode cX10_fits 32 = .ok (.getfield 60, 3) := by decide +kernel
theorem dX10_fits_35 : decode cX10_fits 35 = .ok (.getfield 241, 3) := by decide +kernel
theorem dX10_fits_38 : decode cX10_fits 38 = .ok (.ireturn, 1) := by decide +kernel
theorem dX10_odds_0 : decode cX10_odds 0 = .ok (.aload_n 0, 1) := by decide +kernel
theorem dX10_odds_1 : decode cX10_odds 1 = .ok (.getfield 35, 3) := by decide +kernel
theorem dX10_odds_4 : decode cX10_odds 4 = .ok (.iload_n 1, 1) := by decide +kernel
theorem dX10_odds_5 : decode cX10_odds 5 = .ok (.invokevirtual 174, 3) := by decide +kernel
theorem dX10_odds_8 : decode cX10_odds 8 = .ok (.ifCond .ne 5, 3) := by decide +kernel
theorem dX10_odds_11 : decode cX10_odds 11 = .ok (.iconst (-1), 1) := by decide +kernel
theorem dX10_odds_12 : decode cX10_odds 12 = .ok (.ireturn, 1) := by decide +kernel
theorem dX10_odds_13 : decode cX10_odds 13 = .ok (.aload_n 0, 1) := by decide +kernel
theorem dX10_odds_14 : decode cX10_odds 14 = .ok (.getfield 60, 3) := by decide +kernel
theorem dX10_odds_17 : decode cX10_odds 17 = .ok (.invokevirtual 235, 3) := by decide +kernel
theorem dX10_odds_20 : decode cX10_odds 20 = .ok (.aload_n 0, 1) := by decide +kernel
theorem dX10_odds_21 : decode cX10_odds 21 = .ok (.getfield 60, 3) := by decide +kernel
theorem dX10_odds_24 : decode cX10_odds 24 = .ok (.getfield 241, 3) := by decide +kernel
theorem dX10_odds_27 : decode cX10_odds 27 = .ok (.ifCond .ne 9, 3) := by decide +kernel
theorem dX10_odds_30 : decode cX10_odds 30 = .ok (.aload_n 0, 1) := by decide +kernel
theorem dX10_odds_31 : decode cX10_odds 31 = .ok (.iconst 4, 1) := by decide +kernel
theorem dX10_odds_32 : decode cX10_odds 32 = .ok (.invokevirtual 96, 3) := by decide +kernel
theorem dX10_odds_35 : decode cX10_odds 35 = .ok (.ireturn, 1) := by decide +kernel
theorem dX10_odds_36 : decode cX10_odds 36 = .ok (.aload_n 0, 1) := by decide +kernel
theorem dX10_odds_37 : decode cX10_odds 37 = .ok (.aload_n 0, 1) := by decide +kernel
theorem dX10_odds_38 : decode cX10_odds 38 = .ok (.getfield 60, 3) := by decide +kernel
theorem dX10_odds_41 : decode cX10_odds 41 = .ok (.iload_n 1, 1) := by decide +kernel
theorem dX10_odds_42 : decode cX10_odds 42 = .ok (.invokevirtual 244, 3) := by decide +kernel
theorem dX10_odds_45 : decode cX10_odds 45 = .ok (.aload_n 0, 1) := by decide +kernel
theorem dX10_odds_46 : decode cX10_odds 46 = .ok (.getfield 60, 3) := by decide +kernel
theorem dX10_odds_49 : decode cX10_odds 49 = .ok (.getfield 247, 3) := by decide +kernel
theorem dX10_odds_52 : decode cX10_odds 52 = .ok (.invokevirtual 250, 3) := by decide +kernel
theorem dX10_odds_55 : decode cX10_odds 55 = .ok (.iconst 1, 1) := by decide +kernel
theorem dX10_odds_56 : decode cX10_odds 56 = .ok (.ireturn, 1) := by decide +kernel
theorem dX10_self_0 : decode cX10_self 0 = .ok (.aload_n 0, 1) := by decide +kernel
theorem dX10_self_1 : decode cX10_self 1 = .ok (.getfield 35, 3) := by decide +kernel
theorem dX10_self_4 : decode cX10_self 4 = .ok (.iload_n 1, 1) := by decide +kernel
theorem dX10_self_5 : decode cX10_self 5 = .ok (.invokevirtual 174, 3) := by decide +kernel
theorem dX10_self_8 : decode cX10_self 8 = .ok (.ifCond .ne 5, 3) := by decide +kernel
theorem dX10_self_11 : decode cX10_self 11 = .ok (.iconst (-1), 1) := by decide +kernel
theorem dX10_self_12 : decode cX10_self 12 = .ok (.ireturn, 1) := by decide +kernel
theorem dX10_self_13 : decode cX10_self 13 = .ok (.aload_n 0, 1) := by decide +kernel
theorem dX10_self_14 : decode cX10_self 14 = .ok (.getfield 60, 3) := by decide +kernel
theorem dX10_self_17 : decode cX10_self 17 = .ok (.invokevirtual 235, 3) := by decide +kernel
theorem dX10_self_20 : decode cX10_self 20 = .ok (.aload_n 0, 1) := by decide +kernel
theorem dX10_self_21 : decode cX10_self 21 = .ok (.getfield 60, 3) := by decide +kernel
theorem dX10_self_24 : decode cX10_self 24 = .ok (.iload_n 1, 1) := by decide +kernel
theorem dX10_self_25 : decode cX10_self 25 = .ok (.invokevirtual 253, 3) := by decide +kernel
theorem dX10_self_28 : decode cX10_self 28 = .ok (.ifCond .ne 9, 3) := by decide +kernel
theorem dX10_self_31 : decode cX10_self 31 = .ok (.aload_n 0, 1) := by decide +kernel
theorem dX10_self_32 : decode cX10_self 32 = .ok (.iconst 4, 1) := by decide +kernel
theorem dX10_self_33 : decode cX10_self 33 = .ok (.invokevirtual 96, 3) := by decide +kernel
theorem dX10_self_36 : decode cX10_self 36 = .ok (.ireturn, 1) := by decide +kernel
theorem dX10_self_37 : decode cX10_self 37 = .ok (.aload_n 0, 1) := by decide +kernel
theorem dX10_self_38 : decode cX10_self 38 = .ok (.getfield 60, 3) := by decide +kernel
theorem dX10_self_41 : decode cX10_self 41 = .ok (.iload_n 1, 1) := by decide +kernel
theorem dX10_self_42 : decode cX10_self 42 = .ok (.iconst 0, 1) := by decide +kernel
theorem dX10_self_43 : decode cX10_self 43 = .ok (.invokevirtual 256, 3) := by decide +kernel
theorem dX10_self_46 : decode cX10_self 46 = .ok (.istore_n 2, 1) := by decide +kernel
theorem dX10_self_47 : decode cX10_self 47 = .ok (.aload_n 0, 1) := by decide +kernel
theorem dX10_self_48 : decode cX10_self 48 = .ok (.iload_n 2, 1) := by decide +kernel
theorem dX10_self_49 : decode cX10_self 49 = .ok (.aload_n 0, 1) := by decide +kernel
theorem dX10_self_50 : decode cX10_self 50 = .ok (.getfield 60, 3) := by decide +kernel
theorem dX10_self_53 : decode cX10_self 53 = .ok (.getfield 259, 3) := by decide +kernel
theorem dX10_self_56 : decode cX10_self 56 = .ok (.isub, 1) := by decide +kernel
theorem dX10_self_57 : decode cX10_self 57 = .ok (.iload_n 2, 1) := by decide +kernel
theorem dX10_self_58 : decode cX10_self 58 = .ok (.invokevirtual 250, 3) := by decide +kernel
theorem dX10_self_61 : decode cX10_self 61 = .ok (.iconst 1, 1) := by decide +kernel
theorem dX10_self_62 : decode cX10_self 62 = .ok (.ireturn, 1) := by decide +kernel
theorem dX10_who_0 : decode cX10_who 0 = .ok (.aload_n 0, 1) := by decide +kernel
theorem dX10_who_1 : decode cX10_who 1 = .ok (.getfield 35, 3) := by decide +kernel
theorem dX10_who_4 : decode cX10_who 4 = .ok (.invokevirtual 215, 3) := by decide +kernel
theorem dX10_who_7 : decode cX10_who 7 = .ok (.ifCond .eq 6, 3) := by decide +kernel
theorem dX10_who_10 : decode cX10_who 10 = .ok (.bipush (-4), 2) := by decide +kernel
theorem dX10_who_12 : decode cX10_who 12 = .ok (.ireturn, 1) := by decide +kernel
theorem dX10_who_13 : decode cX10_who 13 = .ok (.aload_n 0, 1) := by decide +kernel
theorem dX10_who_14 : decode cX10_who 14 = .ok (.getfield 60, 3) := by decide +kernel
theorem dX10_who_17 : decode cX10_who 17 = .ok (.invokevirtual 235, 3) := by decide +kernel
theorem dX10_who_20 : decode cX10_who 20 = .ok (.aload_n 0, 1) := by decide +kernel
theorem dX10_who_21 : decode cX10_who 21 = .ok (.getfield 60, 3) := by decide +kernel
theorem dX10_who_24 : decode cX10_who 24 = .ok (.getfield 241, 3) := by decide +kernel
theorem dX10_who_27 : decode cX10_who 27 = .ok (.ifCond .ne 9, 3) := by decide +kernel
theorem dX10_who_30 : decode cX10_who 30 = .ok (.aload_n 0, 1) := by decide +kernel
theorem dX10_who_31 : decode cX10_who 31 = .ok (.iconst 4, 1) := by decide +kernel
theorem dX10_who_32 : decode cX10_who 32 = .ok (.invokevirtual 96, 3) := by decide +kernel
theorem dX10_who_35 : decode cX10_who 35 = .ok (.ireturn, 1) := by decide +kernel
theorem dX10_who_36 : decode cX10_who 36 = .ok (.aload_n 0, 1) := by decide +kernel
theorem dX10_who_37 : decode cX10_who 37 = .ok (.getfield 60, 3) := by decide +kernel
theorem dX10_who_40 : decode cX10_who 40 = .ok (.invokevirtual 262, 3) := by decide +kernel
theorem dX10_who_43 : decode cX10_who 43 = .ok (.istore_n 1, 1) := by decide +kernel
theorem dX10_who_44 : decode cX10_who 44 = .ok (.iload_n 1, 1) := by decide +kernel
theorem dX10_who_45 : decode cX10_who 45 = .ok (.bipush (-9), 2) := by decide +kernel
theorem dX10_who_47 : decode cX10_who 47 = .ok (.if_icmp .ne 6, 3) := by decide +kernel
theorem dX10_who_50 : decode cX10_who 50 = .ok (.bipush (-9), 2) := by decide +kernel
theorem dX10_who_52 : decode cX10_who 52 = .ok (.ireturn, 1) := by decide +kernel
theorem dX10_who_53 : decode cX10_who 53 = .ok (.aload_n 0, 1) := by decide +kernel
theorem dX10_who_54 : decode cX10_who 54 = .ok (.aload_n 0, 1) := by decide +kernel
theorem dX10_who_55 : decode cX10_who 55 = .ok (.getfield 60, 3) := by decide +kernel
theorem dX10_who_58 : decode cX10_who 58 = .ok (.iload_n 1, 1) := by decide +kernel
theorem dX10_who_59 : decode cX10_who 59 = .ok (.invokevirtual 266, 3) := by decide +kernel
theorem dX10_who_62 : decode cX10_who 62 = .ok (.iconst 2, 1) := by decide +kernel
theorem dX10_who_63 : decode cX10_who 63 = .ok (.iadd, 1) := by decide +kernel
theorem dX10_who_64 : decode cX10_who 64 = .ok (.putfield 111, 3) := by decide +kernel
theorem dX10_who_67 : decode cX10_who 67 = .ok (.iload_n 1, 1) := by decide +kernel
theorem dX10_who_68 : decode cX10_who 68 = .ok (.ireturn, 1) := by decide +kernel
theorem dX10_likely_0 : decode cX10_likely 0 = .ok (.aload_n 0, 1) := by decide +kernel
theorem dX10_likely_1 : decode cX10_likely 1 = .ok (.getfield 35, 3) := by decide +kernel
theorem dX10_likely_4 : decode cX10_likely 4 = .ok (.invokevirtual 215, 3) := by decide +kernel
theorem dX10_likely_7 : decode cX10_likely 7 = .ok (.ifCond .eq 6, 3) := by decide +kernel
theorem dX10_likely_10 : decode cX10_likely 10 = .ok (.bipush (-4), 2) := by decide +kernel
theorem dX10_likely_12 : decode cX10_likely 12 = .ok (.ireturn, 1) := by decide +kernel
theorem dX10_likely_13 : decode cX10_likely 13 = .ok (.aload_n 0, 1) := by decide +kernel
theorem dX10_likely_14 : decode cX10_likely 14 = .ok (.getfield 60, 3) := by decide +kernel
theorem dX10_likely_17 : decode cX10_likely 17 = .ok (.invokevirtual 235, 3) := by decide +kernel
theorem dX10_likely_20 : decode cX10_likely 20 = .ok (.aload_n 0, 1) := by decide +kernel
theorem dX10_likely_21 : decode cX10_likely 21 = .ok (.getfield 60, 3) := by decide +kernel
theorem dX10_likely_24 : decode cX10_likely 24 = .ok (.getfield 269, 3) := by decide +kernel
theorem dX10_likely_27 : decode cX10_likely 27 = .ok (.ireturn, 1) := by decide +kernel
theorem dX10_began_0 : decode cX10_began 0 = .ok (.aload_n 0, 1) := by decide +kernel
theorem dX10_began_1 : decode cX10_began 1 = .ok (.getfield 35, 3) := by decide +kernel
theorem dX10_began_4 : decode cX10_began 4 = .ok (.invokevirtual 215, 3) := by decide +kernel
theorem dX10_began_7 : decode cX10_began 7 = .ok (.ifCond .eq 6, 3) := by decide +kernel
theorem dX10_began_10 : decode cX10_began 10 = .ok (.bipush (-4), 2) := by decide +kernel
theorem dX10_began_12 : decode cX10_began 12 = .ok (.ireturn, 1) := by decide +kernel
theorem dX10_began_13 : decode cX10_began 13 = .ok (.aload_n 0, 1) := by decide +kernel
theorem dX10_began_14 : decode cX10_began 14 = .ok (.getfield 60, 3) := by decide +kernel
theorem dX10_began_17 : decode cX10_began 17 = .ok (.invokevirtual 272, 3) := by decide +kernel
theorem dX10_began_20 : decode cX10_began 20 = .ok (.istore_n 1, 1) := by decide +kernel
theorem dX10_began_21 : decode cX10_began 21 = .ok (.aload_n 0, 1) := by decide +kernel
theorem dX10_began_22 : decode cX10_began 22 = .ok (.aload_n 0, 1) := by decide +kernel
theorem dX10_began_23 : decode cX10_began 23 = .ok (.getfield 60, 3) := by decide +kernel
theorem dX10_began_26 : decode cX10_began 26 = .ok (.getfield 275, 3) := by decide +kernel
theorem dX10_began_29 : decode cX10_began 29 = .ok (.putfield 111, 3) := by decide +kernel
theorem dX10_began_32 : decode cX10_began 32 = .ok (.iload_n 1, 1) := by decide +kernel
theorem dX10_began_33 : decode cX10_began 33 = .ok (.ireturn, 1) := by decide +kernel
theorem dX10_tells_0 : decode cX10_tells 0 = .ok (.aload_n 0, 1) := by decide +kernel
theorem dX10_tells_1 : decode cX10_tells 1 = .ok (.getfield 35, 3) := by decide +kernel
theorem dX10_tells_4 : decode cX10_tells 4 = .ok (.iload_n 1, 1) := by decide +kernel
theorem dX10_tells_5 : decode cX10_tells 5 = .ok (.invokevirtual 168, 3) := by decide +kernel
theorem dX10_tells_8 : decode cX10_tells 8 = .ok (.ifCond .ne 5, 3) := by decide +kernel
theorem dX10_tells_11 : decode cX10_tells 11 = .ok (.iconst (-1), 1) := by decide +kernel
theorem dX10_tells_12 : decode cX10_tells 12 = .ok (.ireturn, 1) := by decide +kernel
theorem dX10_tells_13 : decode cX10_tells 13 = .ok (.aload_n 0, 1) := by decide +kernel
theorem dX10_tells_14 : decode cX10_tells 14 = .ok (.getfield 67, 3) := by decide +kernel
theorem dX10_tells_17 : decode cX10_tells 17 = .ok (.iload_n 1, 1) := by decide +kernel
theorem dX10_tells_18 : decode cX10_tells 18 = .ok (.invokevirtual 278, 3) := by decide +kernel
theorem dX10_tells_21 : decode cX10_tells 21 = .ok (.ireturn, 1) := by decide +kernel
theorem dX10_best_0 : decode cX10_best 0 = .ok (.aload_n 0, 1) := by decide +kernel
theorem dX10_best_1 : decode cX10_best 1 = .ok (.getfield 35, 3) := by decide +kernel
theorem dX10_best_4 : decode cX10_best 4 = .ok (.invokevirtual 215, 3) := by decide +kernel
theorem dX10_best_7 : decode cX10_best 7 = .ok (.ifCond .eq 6, 3) := by decide +kernel
theorem dX10_best_10 : decode cX10_best 10 = .ok (.bipush (-4), 2) := by decide +kernel
theorem dX10_best_12 : decode cX10_best 12 = .ok (.ireturn, 1) := by decide +kernel
theorem dX10_best_13 : decode cX10_best 13 = .ok (.iconst 0, 1) := by decide +kernel
theorem dX10_best_14 : decode cX10_best 14 = .ok (.istore_n 1, 1) := by decide +kernel
theorem dX10_best_15 : decode cX10_best 15 = .ok (.iconst 0, 1) := by decide +kernel
theorem dX10_best_16 : decode cX10_best 16 = .ok (.istore_n 2, 1) := by decide +kernel
theorem dX10_best_17 : decode cX10_best 17 = .ok (.iconst 0, 1) := by decide +kernel
theorem dX10_best_18 : decode cX10_best 18 = .ok (.istore_n 3, 1) := by decide +kernel
theorem dX10_best_19 : decode cX10_best 19 = .ok (.iload_n 3, 1) := by decide +kernel
theorem dX10_best_20 : decode cX10_best 20 = .ok (.aload_n 0, 1) := by decide +kernel
theorem dX10_best_21 : decode cX10_best 21 = .ok (.getfield 35, 3) := by decide +kernel
theorem dX10_best_24 : decode cX10_best 24 = .ok (.getfield 165, 3) := by decide +kernel
theorem dX10_best_27 : decode cX10_best 27 = .ok (.if_icmp .ge 30, 3) := by decide +kernel
theorem dX10_best_30 : decode cX10_best 30 = .ok (.aload_n 0, 1) := by decide +kernel
theorem dX10_best_31 : decode cX10_best 31 = .ok (.getfield 67, 3) := by decide +kernel
theorem dX10_best_34 : decode cX10_best 34 = .ok (.iload_n 3, 1) := by decide +kernel
theorem dX10_best_35 : decode cX10_best 35 = .ok (.invokevirtual 278, 3) := by decide +kernel
theorem dX10_best_38 : decode cX10_best 38 = .ok (.istore 4, 2) := by decide +kernel
theorem dX10_best_40 : decode cX10_best 40 = .ok (.iload 4, 2) := by decide +kernel
theorem dX10_best_42 : decode cX10_best 42 = .ok (.iload_n 2, 1) := by decide +kernel
theorem dX10_best_43 : decode cX10_best 43 = .ok (.if_icmp .le 8, 3) := by decide +kernel
theorem dX10_best_46 : decode cX10_best 46 = .ok (.iload 4, 2) := by decide +kernel
theorem dX10_best_48 : decode cX10_best 48 = .ok (.istore_n 2, 1) := by decide +kernel
theorem dX10_best_49 : decode cX10_best 49 = .ok (.iload_n 3, 1) := by decide +kernel
theorem dX10_best_50 : decode cX10_best 50 = .ok (.istore_n 1, 1) := by decide +kernel
theorem dX10_best_51 : decode cX10_best 51 = .ok (.iinc 3 1, 3) := by decide +kernel
theorem dX10_best_54 : decode cX10_best 54 = .ok (.goto (-35), 3) := by decide +kernel
theorem dX10_best_57 : decode cX10_best 57 = .ok (.aload_n 0, 1) := by decide +kernel
theorem dX10_best_58 : decode cX10_best 58 = .ok (.iload_n 2, 1) := by decide +kernel
theorem dX10_best_59 : decode cX10_best 59 = .ok (.putfield 111, 3) := by decide +kernel
theorem dX10_best_62 : decode cX10_best 62 = .ok (.iload_n 1, 1) := by decide +kernel
theorem dX10_best_63 : decode cX10_best 63 = .ok (.ireturn, 1) := by decide +kernel
theorem dX10_hides_0 : decode cX10_hides 0 = .ok (.aload_n 0, 1) := by decide +kernel
theorem dX10_hides_1 : decode cX10_hides 1 = .ok (.getfield 35, 3) := by decide +kernel
theorem dX10_hides_4 : decode cX10_hides 4 = .ok (.iload_n 1, 1) := by decide +kernel
theorem dX10_hides_5 : decode cX10_hides 5 = .ok (.invokevirtual 174, 3) := by decide +kernel
theorem dX10_hides_8 : decode cX10_hides 8 = .ok (.ifCond .eq 18, 3) := by decide +kernel
theorem dX10_hides_11 : decode cX10_hides 11 = .ok (.iload_n 2, 1) := by decide +kernel
theorem dX10_hides_12 : decode cX10_hides 12 = .ok (.bipush (-2), 2) := by decide +kernel
theorem dX10_hides_14 : decode cX10_hides 14 = .ok (.if_icmp .lt 12, 3) := by decide +kernel
theorem dX10_hides_17 : decode cX10_hides 17 = .ok (.iload_n 2, 1) := by decide +kernel
theorem dX10_hides_18 : decode cX10_hides 18 = .ok (.iconst 2, 1) := by decide +kernel
theorem dX10_hides_19 : decode cX10_hides 19 = .ok (.if_icmp .gt 7, 3) := by decide +kernel
theorem dX10_hides_22 : decode cX10_hides 22 = .ok (.iload_n 2, 1) := by decide +kernel
theorem dX10_hides_23 : decode cX10_hides 23 = .ok (.ifCond .ne 5, 3) := by decide +kernel
theorem dX10_hides_26 : decode cX10_hides 26 = .ok (.iconst (-1), 1) := by decide +kernel
theorem dX10_hides_27 : decode cX10_hides 27 = .ok (.ireturn, 1) := by decide +kernel
theorem dX10_hides_28 : decode cX10_hides 28 = .ok (.aload_n 0, 1) := by decide +kernel
theorem dX10_hides_29 : decode cX10_hides 29 = .ok (.getfield 67, 3) := by decide +kernel
theorem dX10_hides_32 : decode cX10_hides 32 = .ok (.iload_n 1, 1) := by decide +kernel
theorem dX10_hides_33 : decode cX10_hides 33 = .ok (.iload_n 2, 1) := by decide +kernel
theorem dX10_hides_34 : decode cX10_hides 34 = .ok (.invokevirtual 281, 3) := by decide +kernel
theorem dX10_hides_37 : decode cX10_hides 37 = .ok (.ireturn, 1) := by decide +kernel
theorem dX10_fewest_0 : decode cX10_fewest 0 = .ok (.aload_n 0, 1) := by decide +kernel
theorem dX10_fewest_1 : decode cX10_fewest 1 = .ok (.getfield 35, 3) := by decide +kernel
theorem dX10_fewest_4 : decode cX10_fewest 4 = .ok (.invokevirtual 215, 3) := by decide +kernel
theorem dX10_fewest_7 : decode cX10_fewest 7 = .ok (.ifCond .eq 6, 3) := by decide +kernel
theorem dX10_fewest_10 : decode cX10_fewest 10 = .ok (.bipush (-4), 2) := by decide +kernel
theorem dX10_fewest_12 : decode cX10_fewest 12 = .ok (.ireturn, 1) := by decide +kernel
theorem dX10_fewest_13 : decode cX10_fewest 13 = .ok (.aload_n 0, 1) := by decide +kernel
theorem dX10_fewest_14 : decode cX10_fewest 14 = .ok (.getfield 67, 3) := by decide +kernel
theorem dX10_fewest_17 : decode cX10_fewest 17 = .ok (.invokevirtual 284, 3) := by decide +kernel
theorem dX10_fewest_20 : decode cX10_fewest 20 = .ok (.iconst 1, 1) := by decide +kernel
theorem dX10_fewest_21 : decode cX10_fewest 21 = .ok (.istore_n 1, 1) := by decide +kernel
theorem dX10_fewest_22 : decode cX10_fewest 22 = .ok (.iload_n 1, 1) := by decide +kernel
theorem dX10_fewest_23 : decode cX10_fewest 23 = .ok (.iconst 3, 1) := by decide +kernel
theorem dX10_fewest_24 : decode cX10_fewest 24 = .ok (.if_icmp .gt 31, 3) := by decide +kernel
theorem dX10_fewest_27 : decode cX10_fewest 27 = .ok (.aload_n 0, 1) := by decide +kernel
theorem dX10_fewest_28 : decode cX10_fewest 28 = .ok (.getfield 67, 3) := by decide +kernel
theorem dX10_fewest_31 : decode cX10_fewest 31 = .ok (.iload_n 1, 1) := by decide +kernel
theorem dX10_fewest_32 : decode cX10_fewest 32 = .ok (.invokevirtual 287, 3) := by decide +kernel
theorem dX10_fewest_35 : decode cX10_fewest 35 = .ok (.istore_n 2, 1) := by decide +kernel
theorem dX10_fewest_36 : decode cX10_fewest 36 = .ok (.iload_n 2, 1) := by decide +kernel
theorem dX10_fewest_37 : decode cX10_fewest 37 = .ok (.bipush (-9), 2) := by decide +kernel
theorem dX10_fewest_39 : decode cX10_fewest 39 = .ok (.if_icmp .eq 10, 3) := by decide +kernel
theorem dX10_fewest_42 : decode cX10_fewest 42 = .ok (.aload_n 0, 1) := by decide +kernel
theorem dX10_fewest_43 : decode cX10_fewest 43 = .ok (.iload_n 2, 1) := by decide +kernel
theorem dX10_fewest_44 : decode cX10_fewest 44 = .ok (.putfield 111, 3) := by decide +kernel
theorem dX10_fewest_47 : decode cX10_fewest 47 = .ok (.iload_n 1, 1) := by decide +kernel
theorem dX10_fewest_48 : decode cX10_fewest 48 = .ok (.ireturn, 1) := by decide +kernel
theorem dX10_fewest_49 : decode cX10_fewest 49 = .ok (.iinc 1 1, 3) := by decide +kernel
theorem dX10_fewest_52 : decode cX10_fewest 52 = .ok (.goto (-30), 3) := by decide +kernel
theorem dX10_fewest_55 : decode cX10_fewest 55 = .ok (.bipush (-9), 2) := by decide +kernel
theorem dX10_fewest_57 : decode cX10_fewest 57 = .ok (.ireturn, 1) := by decide +kernel
theorem dX10_modern_0 : decode cX10_modern 0 = .ok (.iconst 0, 1) := by decide +kernel
theorem dX10_modern_1 : decode cX10_modern 1 = .ok (.istore_n 1, 1) := by decide +kernel
theorem dX10_modern_2 : decode cX10_modern 2 = .ok (.iconst 0, 1) := by decide +kernel
theorem dX10_modern_3 : decode cX10_modern 3 = .ok (.istore_n 2, 1) := by decide +kernel
theorem dX10_modern_4 : decode cX10_modern 4 = .ok (.iconst 0, 1) := by decide +kernel
theorem dX10_modern_5 : decode cX10_modern 5 = .ok (.istore_n 3, 1) := by decide +kernel
theorem dX10_modern_6 : decode cX10_modern 6 = .ok (.iload_n 3, 1) := by decide +kernel
theorem dX10_modern_7 : decode cX10_modern 7 = .ok (.aload_n 0, 1) := by decide +kernel
theorem dX10_modern_8 : decode cX10_modern 8 = .ok (.getfield 35, 3) := by decide +kernel
theorem dX10_modern_11 : decode cX10_modern 11 = .ok (.getfield 165, 3) := by decide +kernel
theorem dX10_modern_14 : decode cX10_modern 14 = .ok (.if_icmp .ge 45, 3) := by decide +kernel
theorem dX10_modern_17 : decode cX10_modern 17 = .ok (.aload_n 0, 1) := by decide +kernel
theorem dX10_modern_18 : decode cX10_modern 18 = .ok (.getfield 35, 3) := by decide +kernel
theorem dX10_modern_21 : decode cX10_modern 21 = .ok (.iload_n 3, 1) := by decide +kernel
theorem dX10_modern_22 : decode cX10_modern 22 = .ok (.invokevirtual 290, 3) := by decide +kernel
theorem dX10_modern_25 : decode cX10_modern 25 = .ok (.ifCond .ne 6, 3) := by decide +kernel
theorem dX10_modern_28 : decode cX10_modern 28 = .ok (.goto 25, 3) := by decide +kernel
theorem dX10_modern_31 : decode cX10_modern 31 = .ok (.iload_n 1, 1) := by decide +kernel
theorem dX10_modern_32 : decode cX10_modern 32 = .ok (.iconst 1, 1) := by decide +kernel
theorem dX10_modern_33 : decode cX10_modern 33 = .ok (.iload_n 3, 1) := by decide +kernel
theorem dX10_modern_34 : decode cX10_modern 34 = .ok (.ishl, 1) := by decide +kernel
theorem dX10_modern_35 : decode cX10_modern 35 = .ok (.ior, 1) := by decide +kernel
theorem dX10_modern_36 : decode cX10_modern 36 = .ok (.istore_n 1, 1) := by decide +kernel
theorem dX10_modern_37 : decode cX10_modern 37 = .ok (.aload_n 0, 1) := by decide +kernel
theorem dX10_modern_38 : decode cX10_modern 38 = .ok (.getfield 67, 3) := by decide +kernel
theorem dX10_modern_41 : decode cX10_modern 41 = .ok (.iload_n 3, 1) := by decide +kernel
theorem dX10_modern_42 : decode cX10_modern 42 = .ok (.iconst 0, 1) := by decide +kernel
theorem dX10_modern_43 : decode cX10_modern 43 = .ok (.iconst (-1), 1) := by decide +kernel
theorem dX10_modern_44 : decode cX10_modern 44 = .ok (.invokevirtual 293, 3) := by decide +kernel
theorem dX10_modern_47 : decode cX10_modern 47 = .ok (.ifCond .ne 6, 3) := by decide +kernel
theorem dX10_modern_50 : decode cX10_modern 50 = .ok (.iinc 2 1, 3) := by decide +kernel
theorem dX10_modern_53 : decode cX10_modern 53 = .ok (.iinc 3 1, 3) := by decide +kernel
theorem dX10_modern_56 : decode cX10_modern 56 = .ok (.goto (-50), 3) := by decide +kernel
theorem dX10_modern_59 : decode cX10_modern 59 = .ok (.aload_n 0, 1) := by decide +kernel
theorem dX10_modern_60 : decode cX10_modern 60 = .ok (.iload_n 2, 1) := by decide +kernel
theorem dX10_modern_61 : decode cX10_modern 61 = .ok (.putfield 111, 3) := by decide +kernel
theorem dX10_modern_64 : decode cX10_modern 64 = .ok (.iload_n 1, 1) := by decide +kernel
theorem dX10_modern_65 : decode cX10_modern 65 = .ok (.ireturn, 1) := by decide +kernel
theorem dX10_together_0 : decode cX10_together 0 = .ok (.aload_n 0, 1) := by decide +kernel
theorem dX10_together_1 : decode cX10_together 1 = .ok (.getfield 74, 3) := by decide +kernel
theorem dX10_together_4 : decode cX10_together 4 = .ok (.iload_n 1, 1) := by decide +kernel
theorem dX10_together_5 : decode cX10_together 5 = .ok (.invokevirtual 297, 3) := by decide +kernel
theorem dX10_together_8 : decode cX10_together 8 = .ok (.ifCond .ne 5, 3) := by decide +kernel
theorem dX10_together_11 : decode cX10_together 11 = .ok (.iconst (-1), 1) := by decide +kernel
theorem dX10_together_12 : decode cX10_together 12 = .ok (.ireturn, 1) := by decide +kernel
theorem dX10_together_13 : decode cX10_together 13 = .ok (.aload_n 0, 1) := by decide +kernel
theorem dX10_together_14 : decode cX10_together 14 = .ok (.getfield 35, 3) := by decide +kernel
theorem dX10_together_17 : decode cX10_together 17 = .ok (.invokevirtual 215, 3) := by decide +kernel
theorem dX10_together_20 : decode cX10_together 20 = .ok (.ifCond .eq 6, 3) := by decide +kernel
theorem dX10_together_23 : decode cX10_together 23 = .ok (.bipush (-4), 2) := by decide +kernel
theorem dX10_together_25 : decode cX10_together 25 = .ok (.ireturn, 1) := by decide +kernel
theorem dX10_together_26 : decode cX10_together 26 = .ok (.aload_n 0, 1) := by decide +kernel
theorem dX10_together_27 : decode cX10_together 27 = .ok (.getfield 74, 3) := by decide +kernel
theorem dX10_together_30 : decode cX10_together 30 = .ok (.aload_n 0, 1) := by decide +kernel
theorem dX10_together_31 : decode cX10_together 31 = .ok (.getfield 44, 3) := by decide +kernel
theorem dX10_together_34 : decode cX10_together 34 = .ok (.getfield 221, 3) := by decide +kernel
theorem dX10_together_37 : decode cX10_together 37 = .ok (.iload_n 1, 1) := by decide +kernel
theorem dX10_together_38 : decode cX10_together 38 = .ok (.invokevirtual 300, 3) := by decide +kernel
theorem dX10_together_41 : decode cX10_together 41 = .ok (.istore_n 2, 1) := by decide +kernel
theorem dX10_together_42 : decode cX10_together 42 = .ok (.iload_n 2, 1) := by decide +kernel
theorem dX10_together_43 : decode cX10_together 43 = .ok (.bipush (-9), 2) := by decide +kernel
theorem dX10_together_45 : decode cX10_together 45 = .ok (.if_icmp .ne 6, 3) := by decide +kernel
theorem dX10_together_48 : decode cX10_together 48 = .ok (.bipush (-9), 2) := by decide +kernel
theorem dX10_together_50 : decode cX10_together 50 = .ok (.ireturn, 1) := by decide +kernel
theorem dX10_together_51 : decode cX10_together 51 = .ok (.aload_n 0, 1) := by decide +kernel
theorem dX10_together_52 : decode cX10_together 52 = .ok (.aload_n 0, 1) := by decide +kernel
theorem dX10_together_53 : decode cX10_together 53 = .ok (.getfield 74, 3) := by decide +kernel
theorem dX10_together_56 : decode cX10_together 56 = .ok (.invokevirtual 304, 3) := by decide +kernel
theorem dX10_together_59 : decode cX10_together 59 = .ok (.iconst 2, 1) := by decide +kernel
theorem dX10_together_60 : decode cX10_together 60 = .ok (.iadd, 1) := by decide +kernel
theorem dX10_together_61 : decode cX10_together 61 = .ok (.putfield 111, 3) := by decide +kernel
theorem dX10_together_64 : decode cX10_together 64 = .ok (.iload_n 2, 1) := by decide +kernel
theorem dX10_together_65 : decode cX10_together 65 = .ok (.ireturn, 1) := by decide +kernel
theorem dX10_rule_0 : decode cX10_rule 0 = .ok (.aload_n 0, 1) := by decide +kernel
theorem dX10_rule_1 : decode cX10_rule 1 = .ok (.getfield 35, 3) := by decide +kernel
theorem dX10_rule_4 : decode cX10_rule 4 = .ok (.invokevirtual 215, 3) := by decide +kernel
theorem dX10_rule_7 : decode cX10_rule 7 = .ok (.ifCond .eq 6, 3) := by decide +kernel
theorem dX10_rule_10 : decode cX10_rule 10 = .ok (.bipush (-4), 2) := by decide +kernel
theorem dX10_rule_12 : decode cX10_rule 12 = .ok (.ireturn, 1) := by decide +kernel
theorem dX10_rule_13 : decode cX10_rule 13 = .ok (.bipush (-9), 2) := by decide +kernel
theorem dX10_rule_15 : decode cX10_rule 15 = .ok (.istore_n 1, 1) := by decide +kernel
theorem dX10_rule_16 : decode cX10_rule 16 = .ok (.bipush 21, 2) := by decide +kernel
theorem dX10_rule_18 : decode cX10_rule 18 = .ok (.istore_n 2, 1) := by decide +kernel
theorem dX10_rule_19 : decode cX10_rule 19 = .ok (.iconst 0, 1) := by decide +kernel
theorem dX10_rule_20 : decode cX10_rule 20 = .ok (.istore_n 3, 1) := by decide +kernel
theorem dX10_rule_21 : decode cX10_rule 21 = .ok (.iload_n 3, 1) := by decide +kernel
theorem dX10_rule_22 : decode cX10_rule 22 = .ok (.bipush 6, 2) := by decide +kernel
theorem dX10_rule_24 : decode cX10_rule 24 = .ok (.if_icmp .ge 44, 3) := by decide +kernel
theorem dX10_rule_27 : decode cX10_rule 27 = .ok (.aload_n 0, 1) := by decide +kernel
theorem dX10_rule_28 : decode cX10_rule 28 = .ok (.getfield 74, 3) := by decide +kernel
theorem dX10_rule_31 : decode cX10_rule 31 = .ok (.aload_n 0, 1) := by decide +kernel
theorem dX10_rule_32 : decode cX10_rule 32 = .ok (.getfield 44, 3) := by decide +kernel
theorem dX10_rule_35 : decode cX10_rule 35 = .ok (.getfield 221, 3) := by decide +kernel
theorem dX10_rule_38 : decode cX10_rule 38 = .ok (.iload_n 3, 1) := by decide +kernel
theorem dX10_rule_39 : decode cX10_rule 39 = .ok (.invokevirtual 300, 3) := by decide +kernel
theorem dX10_rule_42 : decode cX10_rule 42 = .ok (.istore 4, 2) := by decide +kernel
theorem dX10_rule_44 : decode cX10_rule 44 = .ok (.iload 4, 2) := by decide +kernel
theorem dX10_rule_46 : decode cX10_rule 46 = .ok (.bipush (-9), 2) := by decide +kernel
theorem dX10_rule_48 : decode cX10_rule 48 = .ok (.if_icmp .eq 14, 3) := by decide +kernel
theorem dX10_rule_51 : decode cX10_rule 51 = .ok (.iload 4, 2) := by decide +kernel
theorem dX10_rule_53 : decode cX10_rule 53 = .ok (.iload_n 2, 1) := by decide +kernel
theorem dX10_rule_54 : decode cX10_rule 54 = .ok (.if_icmp .ge 8, 3) := by decide +kernel
theorem dX10_rule_57 : decode cX10_rule 57 = .ok (.iload 4, 2) := by decide +kernel
theorem dX10_rule_59 : decode cX10_rule 59 = .ok (.istore_n 2, 1) := by decide +kernel
theorem dX10_rule_60 : decode cX10_rule 60 = .ok (.iload_n 3, 1) := by decide +kernel
theorem dX10_rule_61 : decode cX10_rule 61 = .ok (.istore_n 1, 1) := by decide +kernel
theorem dX10_rule_62 : decode cX10_rule 62 = .ok (.iinc 3 1, 3) := by decide +kernel
theorem dX10_rule_65 : decode cX10_rule 65 = .ok (.goto (-44), 3) := by decide +kernel
theorem dX10_rule_68 : decode cX10_rule 68 = .ok (.iload_n 1, 1) := by decide +kernel
theorem dX10_rule_69 : decode cX10_rule 69 = .ok (.bipush (-9), 2) := by decide +kernel
theorem dX10_rule_71 : decode cX10_rule 71 = .ok (.if_icmp .ne 6, 3) := by decide +kernel
theorem dX10_rule_74 : decode cX10_rule 74 = .ok (.bipush (-9), 2) := by decide +kernel
theorem dX10_rule_76 : decode cX10_rule 76 = .ok (.ireturn, 1) := by decide +kernel
theorem dX10_rule_77 : decode cX10_rule 77 = .ok (.aload_n 0, 1) := by decide +kernel
theorem dX10_rule_78 : decode cX10_rule 78 = .ok (.iload_n 2, 1) := by decide +kernel
theorem dX10_rule_79 : decode cX10_rule 79 = .ok (.putfield 111, 3) := by decide +kernel
theorem dX10_rule_82 : decode cX10_rule 82 = .ok (.iload_n 1, 1) := by decide +kernel
theorem dX10_rule_83 : decode cX10_rule 83 = .ok (.ireturn, 1) := by decide +kernel
theorem dX10_signs_0 : decode cX10_signs 0 = .ok (.aload_n 0, 1) := by decide +kernel
theorem dX10_signs_1 : decode cX10_signs 1 = .ok (.getfield 74, 3) := by decide +kernel
theorem dX10_signs_4 : decode cX10_signs 4 = .ok (.iload_n 1, 1) := by decide +kernel
theorem dX10_signs_5 : decode cX10_signs 5 = .ok (.invokevirtual 297, 3) := by decide +kernel
theorem dX10_signs_8 : decode cX10_signs 8 = .ok (.ifCond .ne 5, 3) := by decide +kernel
theorem dX10_signs_11 : decode cX10_signs 11 = .ok (.iconst (-1), 1) := by decide +kernel
theorem dX10_signs_12 : decode cX10_signs 12 = .ok (.ireturn, 1) := by decide +kernel
theorem dX10_signs_13 : decode cX10_signs 13 = .ok (.aload_n 0, 1) := by decide +kernel
theorem dX10_signs_14 : decode cX10_signs 14 = .ok (.getfield 35, 3) := by decide +kernel
theorem dX10_signs_17 : decode cX10_signs 17 = .ok (.invokevirtual 215, 3) := by decide +kernel
theorem dX10_signs_20 : decode cX10_signs 20 = .ok (.ifCond .eq 6, 3) := by decide +kernel
theorem dX10_signs_23 : decode cX10_signs 23 = .ok (.bipush (-4), 2) := by decide +kernel
theorem dX10_signs_25 : decode cX10_signs 25 = .ok (.ireturn, 1) := by decide +kernel
theorem dX10_signs_26 : decode cX10_signs 26 = .ok (.aload_n 0, 1) := by decide +kernel
theorem dX10_signs_27 : decode cX10_signs 27 = .ok (.getfield 74, 3) := by decide +kernel
theorem dX10_signs_30 : decode cX10_signs 30 = .ok (.iload_n 1, 1) := by decide +kernel
theorem dX10_signs_31 : decode cX10_signs 31 = .ok (.invokevirtual 307, 3) := by decide +kernel
theorem dX10_signs_34 : decode cX10_signs 34 = .ok (.ireturn, 1) := by decide +kernel
theorem dX10_line_0 : decode cX10_line 0 = .ok (.aload_n 0, 1) := by decide +kernel
theorem dX10_line_1 : decode cX10_line 1 = .ok (.getfield 44, 3) := by decide +kernel
theorem dX10_line_4 : decode cX10_line 4 = .ok (.invokevirtual 187, 3) := by decide +kernel
theorem dX10_line_7 : decode cX10_line 7 = .ok (.ifCond .eq 6, 3) := by decide +kernel
theorem dX10_line_10 : decode cX10_line 10 = .ok (.bipush (-4), 2) := by decide +kernel
theorem dX10_line_12 : decode cX10_line 12 = .ok (.ireturn, 1) := by decide +kernel
theorem dX10_line_13 : decode cX10_line 13 = .ok (.aload_n 0, 1) := by decide +kernel
theorem dX10_line_14 : decode cX10_line 14 = .ok (.getfield 44, 3) := by decide +kernel
theorem dX10_line_17 : decode cX10_line 17 = .ok (.getfield 194, 3) := by decide +kernel
theorem dX10_line_20 : decode cX10_line 20 = .ok (.istore_n 1, 1) := by decide +kernel
theorem dX10_line_21 : decode cX10_line 21 = .ok (.iconst 0, 1) := by decide +kernel
theorem dX10_line_22 : decode cX10_line 22 = .ok (.istore_n 2, 1) := by decide +kernel
theorem dX10_line_23 : decode cX10_line 23 = .ok (.iload_n 1, 1) := by decide +kernel
theorem dX10_line_24 : decode cX10_line 24 = .ok (.istore_n 3, 1) := by decide +kernel
theorem dX10_line_25 : decode cX10_line 25 = .ok (.iload_n 3, 1) := by decide +kernel
theorem dX10_line_26 : decode cX10_line 26 = .ok (.aload_n 0, 1) := by decide +kernel
theorem dX10_line_27 : decode cX10_line 27 = .ok (.getfield 35, 3) := by decide +kernel
theorem dX10_line_30 : decode cX10_line 30 = .ok (.getfield 165, 3) := by decide +kernel
theorem dX10_line_33 : decode cX10_line 33 = .ok (.if_icmp .ge 61, 3) := by decide +kernel
theorem dX10_line_36 : decode cX10_line 36 = .ok (.iload_n 3, 1) := by decide +kernel
theorem dX10_line_37 : decode cX10_line 37 = .ok (.iload_n 1, 1) := by decide +kernel
theorem dX10_line_38 : decode cX10_line 38 = .ok (.if_icmp .eq 15, 3) := by decide +kernel
theorem dX10_line_41 : decode cX10_line 41 = .ok (.aload_n 0, 1) := by decide +kernel
theorem dX10_line_42 : decode cX10_line 42 = .ok (.getfield 35, 3) := by decide +kernel
theorem dX10_line_45 : decode cX10_line 45 = .ok (.iload_n 3, 1) := by decide +kernel
theorem dX10_line_46 : decode cX10_line 46 = .ok (.iconst 3, 1) := by decide +kernel
theorem dX10_line_47 : decode cX10_line 47 = .ok (.invokevirtual 180, 3) := by decide +kernel
theorem dX10_line_50 : decode cX10_line 50 = .ok (.ifCond .ne 44, 3) := by decide +kernel
theorem dX10_line_53 : decode cX10_line 53 = .ok (.iload_n 2, 1) := by decide +kernel
theorem dX10_line_54 : decode cX10_line 54 = .ok (.aload_n 0, 1) := by decide +kernel
theorem dX10_line_55 : decode cX10_line 55 = .ok (.getfield 35, 3) := by decide +kernel
theorem dX10_line_58 : decode cX10_line 58 = .ok (.iload_n 3, 1) := by decide +kernel
theorem dX10_line_59 : decode cX10_line 59 = .ok (.aload_n 0, 1) := by decide +kernel
theorem dX10_line_60 : decode cX10_line 60 = .ok (.getfield 44, 3) := by decide +kernel
theorem dX10_line_63 : decode cX10_line 63 = .ok (.getfield 221, 3) := by decide +kernel
theorem dX10_line_66 : decode cX10_line 66 = .ok (.invokevirtual 224, 3) := by decide +kernel
theorem dX10_line_69 : decode cX10_line 69 = .ok (.invokestatic 310, 3) := by decide +kernel
theorem dX10_line_72 : decode cX10_line 72 = .ok (.iadd, 1) := by decide +kernel
theorem dX10_line_73 : decode cX10_line 73 = .ok (.istore_n 2, 1) := by decide +kernel
theorem dX10_line_74 : decode cX10_line 74 = .ok (.iload_n 2, 1) := by decide +kernel
theorem dX10_line_75 : decode cX10_line 75 = .ok (.aload_n 0, 1) := by decide +kernel
theorem dX10_line_76 : decode cX10_line 76 = .ok (.getfield 35, 3) := by decide +kernel
theorem dX10_line_79 : decode cX10_line 79 = .ok (.iload_n 3, 1) := by decide +kernel
theorem dX10_line_80 : decode cX10_line 80 = .ok (.invokevirtual 290, 3) := by decide +kernel
theorem dX10_line_83 : decode cX10_line 83 = .ok (.invokestatic 310, 3) := by decide +kernel
theorem dX10_line_86 : decode cX10_line 86 = .ok (.isub, 1) := by decide +kernel
theorem dX10_line_87 : decode cX10_line 87 = .ok (.istore_n 2, 1) := by decide +kernel
theorem dX10_line_88 : decode cX10_line 88 = .ok (.iinc 3 1, 3) := by decide +kernel
theorem dX10_line_91 : decode cX10_line 91 = .ok (.goto (-66), 3) := by decide +kernel
theorem dX10_line_94 : decode cX10_line 94 = .ok (.aload_n 0, 1) := by decide +kernel
theorem dX10_line_95 : decode cX10_line 95 = .ok (.iload_n 1, 1) := by decide +kernel
theorem dX10_line_96 : decode cX10_line 96 = .ok (.aload_n 0, 1) := by decide +kernel
theorem dX10_line_97 : decode cX10_line 97 = .ok (.getfield 35, 3) := by decide +kernel
theorem dX10_line_100 : decode cX10_line 100 = .ok (.iload_n 1, 1) := by decide +kernel
theorem dX10_line_101 : decode cX10_line 101 = .ok (.invokevirtual 315, 3) := by decide +kernel
theorem dX10_line_104 : decode cX10_line 104 = .ok (.isub, 1) := by decide +kernel
theorem dX10_line_105 : decode cX10_line 105 = .ok (.putfield 111, 3) := by decide +kernel
theorem dX10_line_108 : decode cX10_line 108 = .ok (.iload_n 2, 1) := by decide +kernel
theorem dX10_line_109 : decode cX10_line 109 = .ok (.iconst 0, 1) := by decide +kernel
theorem dX10_line_110 : decode cX10_line 110 = .ok (.invokestatic 318, 3) := by decide +kernel
theorem dX10_line_113 : decode cX10_line 113 = .ok (.ireturn, 1) := by decide +kernel
theorem dX10_letter_0 : decode cX10_letter 0 = .ok (.aload_n 0, 1) := by decide +kernel
theorem dX10_letter_1 : decode cX10_letter 1 = .ok (.getfield 35, 3) := by decide +kernel
theorem dX10_letter_4 : decode cX10_letter 4 = .ok (.invokevirtual 215, 3) := by decide +kernel
theorem dX10_letter_7 : decode cX10_letter 7 = .ok (.ifCond .eq 6, 3) := by decide +kernel
theorem dX10_letter_10 : decode cX10_letter 10 = .ok (.bipush (-4), 2) := by decide +kernel
theorem dX10_letter_12 : decode cX10_letter 12 = .ok (.ireturn, 1) := by decide +kernel
theorem dX10_letter_13 : decode cX10_letter 13 = .ok (.bipush (-9), 2) := by decide +kernel
theorem dX10_letter_15 : decode cX10_letter 15 = .ok (.istore_n 1, 1) := by decide +kernel
theorem dX10_letter_16 : decode cX10_letter 16 = .ok (.bipush 15, 2) := by decide +kernel
theorem dX10_letter_18 : decode cX10_letter 18 = .ok (.istore_n 2, 1) := by decide +kernel
theorem dX10_letter_19 : decode cX10_letter 19 = .ok (.aload_n 0, 1) := by decide +kernel
theorem dX10_letter_20 : decode cX10_letter 20 = .ok (.getfield 35, 3) := by decide +kernel
theorem dX10_letter_23 : decode cX10_letter 23 = .ok (.iconst 3, 1) := by decide +kernel
theorem dX10_letter_24 : decode cX10_letter 24 = .ok (.invokevirtual 323, 3) := by decide +kernel
theorem dX10_letter_27 : decode cX10_letter 27 = .ok (.istore_n 3, 1) := by decide +kernel
theorem dX10_letter_28 : decode cX10_letter 28 = .ok (.iconst 0, 1) := by decide +kernel
theorem dX10_letter_29 : decode cX10_letter 29 = .ok (.istore 4, 2) := by decide +kernel
theorem dX10_letter_31 : decode cX10_letter 31 = .ok (.iload 4, 2) := by decide +kernel
theorem dX10_letter_33 : decode cX10_letter 33 = .ok (.iload_n 3, 1) := by decide +kernel
theorem dX10_letter_34 : decode cX10_letter 34 = .ok (.if_icmp .ge 43, 3) := by decide +kernel
theorem dX10_letter_37 : decode cX10_letter 37 = .ok (.aload_n 0, 1) := by decide +kernel
theorem dX10_letter_38 : decode cX10_letter 38 = .ok (.getfield 35, 3) := by decide +kernel
theorem dX10_letter_41 : decode cX10_letter 41 = .ok (.iload 4, 2) := by decide +kernel
theorem dX10_letter_43 : decode cX10_letter 43 = .ok (.invokevirtual 209, 3) := by decide +kernel
theorem dX10_letter_46 : decode cX10_letter 46 = .ok (.aload_n 0, 1) := by decide +kernel
theorem dX10_letter_47 : decode cX10_letter 47 = .ok (.getfield 44, 3) := by decide +kernel
theorem dX10_letter_50 : decode cX10_letter 50 = .ok (.getfield 194, 3) := by decide +kernel
theorem dX10_letter_53 : decode cX10_letter 53 = .ok (.isub, 1) := by decide +kernel
theorem dX10_letter_54 : decode cX10_letter 54 = .ok (.invokestatic 326, 3) := by decide +kernel
theorem dX10_letter_57 : decode cX10_letter 57 = .ok (.istore 5, 2) := by decide +kernel
theorem dX10_letter_59 : decode cX10_letter 59 = .ok (.iload 5, 2) := by decide +kernel
theorem dX10_letter_61 : decode cX10_letter 61 = .ok (.iload_n 2, 1) := by decide +kernel
theorem dX10_letter_62 : decode cX10_letter 62 = .ok (.if_icmp .ge 9, 3) := by decide +kernel
theorem dX10_letter_65 : decode cX10_letter 65 = .ok (.iload 5, 2) := by decide +kernel
theorem dX10_letter_67 : decode cX10_letter 67 = .ok (.istore_n 2, 1) := by decide +kernel
theorem dX10_letter_68 : decode cX10_letter 68 = .ok (.iload 4, 2) := by decide +kernel
theorem dX10_letter_70 : decode cX10_letter 70 = .ok (.istore_n 1, 1) := by decide +kernel
theorem dX10_letter_71 : decode cX10_letter 71 = .ok (.iinc 4 1, 3) := by decide +kernel
theorem dX10_letter_74 : decode cX10_letter 74 = .ok (.goto (-43), 3) := by decide +kernel
theorem dX10_letter_77 : decode cX10_letter 77 = .ok (.iload_n 1, 1) := by decide +kernel
theorem dX10_letter_78 : decode cX10_letter 78 = .ok (.bipush (-9), 2) := by decide +kernel
theorem dX10_letter_80 : decode cX10_letter 80 = .ok (.if_icmp .ne 6, 3) := by decide +kernel
theorem dX10_letter_83 : decode cX10_letter 83 = .ok (.bipush (-9), 2) := by decide +kernel
theorem dX10_letter_85 : decode cX10_letter 85 = .ok (.ireturn, 1) := by decide +kernel
theorem dX10_letter_86 : decode cX10_letter 86 = .ok (.aload_n 0, 1) := by decide +kernel
theorem dX10_letter_87 : decode cX10_letter 87 = .ok (.iload_n 2, 1) := by decide +kernel
theorem dX10_letter_88 : decode cX10_letter 88 = .ok (.putfield 111, 3) := by decide +kernel
theorem dX10_letter_91 : decode cX10_letter 91 = .ok (.iload_n 1, 1) := by decide +kernel
theorem dX10_letter_92 : decode cX10_letter 92 = .ok (.ireturn, 1) := by decide +kernel
theorem dX10_aloud_0 : decode cX10_aloud 0 = .ok (.aload_n 0, 1) := by decide +kernel
theorem dX10_aloud_1 : decode cX10_aloud 1 = .ok (.getfield 35, 3) := by decide +kernel
theorem dX10_aloud_4 : decode cX10_aloud 4 = .ok (.invokevirtual 215, 3) := by decide +kernel
theorem dX10_aloud_7 : decode cX10_aloud 7 = .ok (.ifCond .eq 6, 3) := by decide +kernel
theorem dX10_aloud_10 : decode cX10_aloud 10 = .ok (.bipush (-4), 2) := by decide +kernel
theorem dX10_aloud_12 : decode cX10_aloud 12 = .ok (.ireturn, 1) := by decide +kernel
theorem dX10_aloud_13 : decode cX10_aloud 13 = .ok (.aload_n 0, 1) := by decide +kernel
theorem dX10_aloud_14 : decode cX10_aloud 14 = .ok (.getfield 60, 3) := by decide +kernel
theorem dX10_aloud_17 : decode cX10_aloud 17 = .ok (.invokevirtual 235, 3) := by decide +kernel
theorem dX10_aloud_20 : decode cX10_aloud 20 = .ok (.aload_n 0, 1) := by decide +kernel
theorem dX10_aloud_21 : decode cX10_aloud 21 = .ok (.getfield 60, 3) := by decide +kernel
theorem dX10_aloud_24 : decode cX10_aloud 24 = .ok (.getfield 241, 3) := by decide +kernel
theorem dX10_aloud_27 : decode cX10_aloud 27 = .ok (.ifCond .ne 9, 3) := by decide +kernel
theorem dX10_aloud_30 : decode cX10_aloud 30 = .ok (.aload_n 0, 1) := by decide +kernel
theorem dX10_aloud_31 : decode cX10_aloud 31 = .ok (.iconst 4, 1) := by decide +kernel
theorem dX10_aloud_32 : decode cX10_aloud 32 = .ok (.invokevirtual 96, 3) := by decide +kernel
theorem dX10_aloud_35 : decode cX10_aloud 35 = .ok (.ireturn, 1) := by decide +kernel
theorem dX10_aloud_36 : decode cX10_aloud 36 = .ok (.iconst 0, 1) := by decide +kernel
theorem dX10_aloud_37 : decode cX10_aloud 37 = .ok (.istore_n 1, 1) := by decide +kernel
theorem dX10_aloud_38 : decode cX10_aloud 38 = .ok (.iconst 1, 1) := by decide +kernel
theorem dX10_aloud_39 : decode cX10_aloud 39 = .ok (.istore_n 2, 1) := by decide +kernel
theorem dX10_aloud_40 : decode cX10_aloud 40 = .ok (.iload_n 2, 1) := by decide +kernel
theorem dX10_aloud_41 : decode cX10_aloud 41 = .ok (.aload_n 0, 1) := by decide +kernel
theorem dX10_aloud_42 : decode cX10_aloud 42 = .ok (.getfield 35, 3) := by decide +kernel
theorem dX10_aloud_45 : decode cX10_aloud 45 = .ok (.getfield 329, 3) := by decide +kernel
theorem dX10_aloud_48 : decode cX10_aloud 48 = .ok (.if_icmp .ge 30, 3) := by decide +kernel
theorem dX10_aloud_51 : decode cX10_aloud 51 = .ok (.aload_n 0, 1) := by decide +kernel
theorem dX10_aloud_52 : decode cX10_aloud 52 = .ok (.getfield 60, 3) := by decide +kernel
theorem dX10_aloud_55 : decode cX10_aloud 55 = .ok (.iload_n 2, 1) := by decide +kernel
theorem dX10_aloud_56 : decode cX10_aloud 56 = .ok (.invokevirtual 253, 3) := by decide +kernel
theorem dX10_aloud_59 : decode cX10_aloud 59 = .ok (.aload_n 0, 1) := by decide +kernel
theorem dX10_aloud_60 : decode cX10_aloud 60 = .ok (.getfield 60, 3) := by decide +kernel
theorem dX10_aloud_63 : decode cX10_aloud 63 = .ok (.iload_n 1, 1) := by decide +kernel
theorem dX10_aloud_64 : decode cX10_aloud 64 = .ok (.invokevirtual 253, 3) := by decide +kernel
theorem dX10_aloud_67 : decode cX10_aloud 67 = .ok (.if_icmp .ge 5, 3) := by decide +kernel
theorem dX10_aloud_70 : decode cX10_aloud 70 = .ok (.iload_n 2, 1) := by decide +kernel
theorem dX10_aloud_71 : decode cX10_aloud 71 = .ok (.istore_n 1, 1) := by decide +kernel
theorem dX10_aloud_72 : decode cX10_aloud 72 = .ok (.iinc 2 1, 3) := by decide +kernel
theorem dX10_aloud_75 : decode cX10_aloud 75 = .ok (.goto (-35), 3) := by decide +kernel
theorem dX10_aloud_78 : decode cX10_aloud 78 = .ok (.aload_n 0, 1) := by decide +kernel
theorem dX10_aloud_79 : decode cX10_aloud 79 = .ok (.aload_n 0, 1) := by decide +kernel
theorem dX10_aloud_80 : decode cX10_aloud 80 = .ok (.getfield 60, 3) := by decide +kernel
theorem dX10_aloud_83 : decode cX10_aloud 83 = .ok (.iload_n 1, 1) := by decide +kernel
theorem dX10_aloud_84 : decode cX10_aloud 84 = .ok (.invokevirtual 253, 3) := by decide +kernel
theorem dX10_aloud_87 : decode cX10_aloud 87 = .ok (.putfield 111, 3) := by decide +kernel
theorem dX10_aloud_90 : decode cX10_aloud 90 = .ok (.iload_n 1, 1) := by decide +kernel
theorem dX10_aloud_91 : decode cX10_aloud 91 = .ok (.ireturn, 1) := by decide +kernel
theorem dX10_lots_0 : decode cX10_lots 0 = .ok (.iload_n 1, 1) := by decide +kernel
theorem dX10_lots_1 : decode cX10_lots 1 = .ok (.iconst 1, 1) := by decide +kernel
theorem dX10_lots_2 : decode cX10_lots 2 = .ok (.if_icmp .lt 21, 3) := by decide +kernel
theorem dX10_lots_5 : decode cX10_lots 5 = .ok (.iload_n 1, 1) := by decide +kernel
theorem dX10_lots_6 : decode cX10_lots 6 = .ok (.bipush 20, 2) := by decide +kernel
theorem dX10_lots_8 : decode cX10_lots 8 = .ok (.if_icmp .gt 15, 3) := by decide +kernel
theorem dX10_lots_11 : decode cX10_lots 11 = .ok (.iload_n 2, 1) := by decide +kernel
theorem dX10_lots_12 : decode cX10_lots 12 = .ok (.iconst 1, 1) := by decide +kernel
theorem dX10_lots_13 : decode cX10_lots 13 = .ok (.if_icmp .lt 10, 3) := by decide +kernel
theorem dX10_lots_16 : decode cX10_lots 16 = .ok (.iload_n 2, 1) := by decide +kernel
theorem dX10_lots_17 : decode cX10_lots 17 = .ok (.ldc_w 332, 3) := by decide +kernel
theorem dX10_lots_20 : decode cX10_lots 20 = .ok (.if_icmp .le 5, 3) := by decide +kernel
theorem dX10_lots_23 : decode cX10_lots 23 = .ok (.iconst (-1), 1) := by decide +kernel
theorem dX10_lots_24 : decode cX10_lots 24 = .ok (.ireturn, 1) := by decide +kernel
theorem dX10_lots_25 : decode cX10_lots 25 = .ok (.aload_n 0, 1) := by decide +kernel
theorem dX10_lots_26 : decode cX10_lots 26 = .ok (.getfield 44, 3) := by decide +kernel
theorem dX10_lots_29 : decode cX10_lots 29 = .ok (.invokevirtual 187, 3) := by decide +kernel
theorem dX10_lots_32 : decode cX10_lots 32 = .ok (.ifCond .eq 6, 3) := by decide +kernel
theorem dX10_lots_35 : decode cX10_lots 35 = .ok (.bipush (-4), 2) := by decide +kernel
theorem dX10_lots_37 : decode cX10_lots 37 = .ok (.ireturn, 1) := by decide +kernel
theorem dX10_lots_38 : decode cX10_lots 38 = .ok (.iload_n 2, 1) := by decide +kernel
theorem dX10_lots_39 : decode cX10_lots 39 = .ok (.istore_n 3, 1) := by decide +kernel
theorem dX10_lots_40 : decode cX10_lots 40 = .ok (.iconst 0, 1) := by decide +kernel
theorem dX10_lots_41 : decode cX10_lots 41 = .ok (.istore 4, 2) := by decide +kernel
theorem dX10_lots_43 : decode cX10_lots 43 = .ok (.iconst 0, 1) := by decide +kernel
theorem dX10_lots_44 : decode cX10_lots 44 = .ok (.istore 5, 2) := by decide +kernel
theorem dX10_lots_46 : decode cX10_lots 46 = .ok (.iload 5, 2) := by decide +kernel
theorem dX10_lots_48 : decode cX10_lots 48 = .ok (.iload_n 1, 1) := by decide +kernel
theorem dX10_lots_49 : decode cX10_lots 49 = .ok (.if_icmp .ge 69, 3) := by decide +kernel
theorem dX10_lots_52 : decode cX10_lots 52 = .ok (.aload_n 0, 1) := by decide +kernel
theorem dX10_lots_53 : decode cX10_lots 53 = .ok (.getfield 44, 3) := by decide +kernel
theorem dX10_lots_56 : decode cX10_lots 56 = .ok (.invokevirtual 187, 3) := by decide +kernel
theorem dX10_lots_59 : decode cX10_lots 59 = .ok (.ifCond .ne 59, 3) := by decide +kernel
theorem dX10_lots_62 : decode cX10_lots 62 = .ok (.aload_n 0, 1) := by decide +kernel
theorem dX10_lots_63 : decode cX10_lots 63 = .ok (.getfield 44, 3) := by decide +kernel
theorem dX10_lots_66 : decode cX10_lots 66 = .ok (.invokevirtual 191, 3) := by decide +kernel
theorem dX10_lots_69 : decode cX10_lots 69 = .ok (.ifCond .ne 49, 3) := by decide +kernel
theorem dX10_lots_72 : decode cX10_lots 72 = .ok (.ldc2_w 333, 3) := by decide +kernel
theorem dX10_lots_75 : decode cX10_lots 75 = .ok (.iload_n 3, 1) := by decide +kernel
theorem dX10_lots_76 : decode cX10_lots 76 = .ok (.i2l, 1) := by decide +kernel
theorem dX10_lots_77 : decode cX10_lots 77 = .ok (.lmul, 1) := by decide +kernel
theorem dX10_lots_78 : decode cX10_lots 78 = .ok (.ldc2_w 335, 3) := by decide +kernel
theorem dX10_lots_81 : decode cX10_lots 81 = .ok (.lrem, 1) := by decide +kernel
theorem dX10_lots_82 : decode cX10_lots 82 = .ok (.l2i, 1) := by decide +kernel
theorem dX10_lots_83 : decode cX10_lots 83 = .ok (.istore_n 3, 1) := by decide +kernel
theorem dX10_lots_84 : decode cX10_lots 84 = .ok (.aload_n 0, 1) := by decide +kernel
theorem dX10_lots_85 : decode cX10_lots 85 = .ok (.iload_n 3, 1) := by decide +kernel
theorem dX10_lots_86 : decode cX10_lots 86 = .ok (.invokevirtual 337, 3) := by decide +kernel
theorem dX10_lots_89 : decode cX10_lots 89 = .ok (.aload_n 0, 1) := by decide +kernel
theorem dX10_lots_90 : decode cX10_lots 90 = .ok (.getfield 44, 3) := by decide +kernel
theorem dX10_lots_93 : decode cX10_lots 93 = .ok (.invokevirtual 191, 3) := by decide +kernel
theorem dX10_lots_96 : decode cX10_lots 96 = .ok (.ifCond .ne 16, 3) := by decide +kernel
theorem dX10_lots_99 : decode cX10_lots 99 = .ok (.aload_n 0, 1) := by decide +kernel
theorem dX10_lots_100 : decode cX10_lots 100 = .ok (.getfield 44, 3) := by decide +kernel
theorem dX10_lots_103 : decode cX10_lots 103 = .ok (.iconst 0, 1) := by decide +kernel
theorem dX10_lots_104 : decode cX10_lots 104 = .ok (.iconst 0, 1) := by decide +kernel
theorem dX10_lots_105 : decode cX10_lots 105 = .ok (.iconst 0, 1) := by decide +kernel
theorem dX10_lots_106 : decode cX10_lots 106 = .ok (.invokevirtual 197, 3) := by decide +kernel
theorem dX10_lots_109 : decode cX10_lots 109 = .ok (.iinc 4 1, 3) := by decide +kernel
theorem dX10_lots_112 : decode cX10_lots 112 = .ok (.iinc 5 1, 3) := by decide +kernel
theorem dX10_lots_115 : decode cX10_lots 115 = .ok (.goto (-69), 3) := by decide +kernel
theorem dX10_lots_118 : decode cX10_lots 118 = .ok (.iload 4, 2) := by decide +kernel
theorem dX10_lots_120 : decode cX10_lots 120 = .ok (.ireturn, 1) := by decide +kernel
theorem dX10_asked_0 : decode cX10_asked 0 = .ok (.aload_n 0, 1) := by decide +kernel
theorem dX10_asked_1 : decode cX10_asked 1 = .ok (.getfield 111, 3) := by decide +kernel
theorem dX10_asked_4 : decode cX10_asked 4 = .ok (.ireturn, 1) := by decide +kernel
theorem dX10_upper_0 : decode cX10_upper 0 = .ok (.aload_n 0, 1) := by decide +kernel
theorem dX10_upper_1 : decode cX10_upper 1 = .ok (.getfield 340, 3) := by decide +kernel
theorem dX10_upper_4 : decode cX10_upper 4 = .ok (.lreturn, 1) := by decide +kernel
theorem dX10_lower_0 : decode cX10_lower 0 = .ok (.aload_n 0, 1) := by decide +kernel
theorem dX10_lower_1 : decode cX10_lower 1 = .ok (.getfield 82, 3) := by decide +kernel
theorem dX10_lower_4 : decode cX10_lower 4 = .ok (.lreturn, 1) := by decide +kernel
theorem dX10_count_0 : decode cX10_count 0 = .ok (.iload_n 1, 1) := by decide +kernel
theorem dX10_count_1 : decode cX10_count 1 = .ok (.ifCond .lt 9, 3) := by decide +kernel
theorem dX10_count_4 : decode cX10_count 4 = .ok (.iload_n 1, 1) := by decide +kernel
theorem dX10_count_5 : decode cX10_count 5 = .ok (.bipush 8, 2) := by decide +kernel
theorem dX10_count_7 : decode cX10_count 7 = .ok (.if_icmp .le 5, 3) := by decide +kernel
theorem dX10_count_10 : decode cX10_count 10 = .ok (.iconst (-1), 1) := by decide +kernel
theorem dX10_count_11 : decode cX10_count 11 = .ok (.ireturn, 1) := by decide +kernel
theorem dX10_count_12 : decode cX10_count 12 = .ok (.aload_n 0, 1) := by decide +kernel
theorem dX10_count_13 : decode cX10_count 13 = .ok (.iload_n 1, 1) := by decide +kernel
theorem dX10_count_14 : decode cX10_count 14 = .ok (.invokevirtual 343, 3) := by decide +kernel
theorem dX10_count_17 : decode cX10_count 17 = .ok (.ireturn, 1) := by decide +kernel
theorem dX10_finding_0 : decode cX10_finding 0 = .ok (.aload_n 0, 1) := by decide +kernel
theorem dX10_finding_1 : decode cX10_finding 1 = .ok (.getfield 346, 3) := by decide +kernel
theorem dX10_finding_4 : decode cX10_finding 4 = .ok (.ireturn, 1) := by decide +kernel
theorem dX10_findings_0 : decode cX10_findings 0 = .ok (.iload_n 1, 1) := by decide +kernel
theorem dX10_findings_1 : decode cX10_findings 1 = .ok (.iconst 1, 1) := by decide +kernel
theorem dX10_findings_2 : decode cX10_findings 2 = .ok (.if_icmp .lt 8, 3) := by decide +kernel
theorem dX10_findings_5 : decode cX10_findings 5 = .ok (.iload_n 1, 1) := by decide +kernel
theorem dX10_findings_6 : decode cX10_findings 6 = .ok (.iconst 5, 1) := by decide +kernel
theorem dX10_findings_7 : decode cX10_findings 7 = .ok (.if_icmp .le 5, 3) := by decide +kernel
theorem dX10_findings_10 : decode cX10_findings 10 = .ok (.iconst (-1), 1) := by decide +kernel
theorem dX10_findings_11 : decode cX10_findings 11 = .ok (.ireturn, 1) := by decide +kernel
theorem dX10_findings_12 : decode cX10_findings 12 = .ok (.aload_n 0, 1) := by decide +kernel
theorem dX10_findings_13 : decode cX10_findings 13 = .ok (.getfield 78, 3) := by decide +kernel
theorem dX10_findings_16 : decode cX10_findings 16 = .ok (.iload_n 1, 1) := by decide +kernel
theorem dX10_findings_17 : decode cX10_findings 17 = .ok (.iaload, 1) := by decide +kernel
theorem dX10_findings_18 : decode cX10_findings 18 = .ok (.ireturn, 1) := by decide +kernel
theorem dX10_digest_0 : decode cX10_digest 0 = .ok (.ldc2_w 349, 3) := by decide +kernel
theorem dX10_digest_3 : decode cX10_digest 3 = .ok (.lstore_n 1, 1) := by decide +kernel
theorem dX10_digest_4 : decode cX10_digest 4 = .ok (.iconst 0, 1) := by decide +kernel
theorem dX10_digest_5 : decode cX10_digest 5 = .ok (.istore_n 3, 1) := by decide +kernel
theorem dX10_digest_6 : decode cX10_digest 6 = .ok (.iload_n 3, 1) := by decide +kernel
theorem dX10_digest_7 : decode cX10_digest 7 = .ok (.bipush 8, 2) := by decide +kernel
theorem dX10_digest_9 : decode cX10_digest 9 = .ok (.if_icmp .gt 22, 3) := by decide +kernel
theorem dX10_digest_12 : decode cX10_digest 12 = .ok (.ldc2_w 351, 3) := by decide +kernel
theorem dX10_digest_15 : decode cX10_digest 15 = .ok (.lload_n 1, 1) := by decide +kernel
theorem dX10_digest_16 : decode cX10_digest 16 = .ok (.lmul, 1) := by decide +kernel
theorem dX10_digest_17 : decode cX10_digest 17 = .ok (.aload_n 0, 1) := by decide +kernel
theorem dX10_digest_18 : decode cX10_digest 18 = .ok (.iload_n 3, 1) := by decide +kernel
theorem dX10_digest_19 : decode cX10_digest 19 = .ok (.invokevirtual 343, 3) := by decide +kernel
theorem dX10_digest_22 : decode cX10_digest 22 = .ok (.i2l, 1) := by decide +kernel
theorem dX10_digest_23 : decode cX10_digest 23 = .ok (.ladd, 1) := by decide +kernel
theorem dX10_digest_24 : decode cX10_digest 24 = .ok (.lstore_n 1, 1) := by decide +kernel
theorem dX10_digest_25 : decode cX10_digest 25 = .ok (.iinc 3 1, 3) := by decide +kernel
theorem dX10_digest_28 : decode cX10_digest 28 = .ok (.goto (-22), 3) := by decide +kernel
theorem dX10_digest_31 : decode cX10_digest 31 = .ok (.ldc2_w 351, 3) := by decide +kernel
theorem dX10_digest_34 : decode cX10_digest 34 = .ok (.lload_n 1, 1) := by decide +kernel
theorem dX10_digest_35 : decode cX10_digest 35 = .ok (.lmul, 1) := by decide +kernel
theorem dX10_digest_36 : decode cX10_digest 36 = .ok (.aload_n 0, 1) := by decide +kernel
theorem dX10_digest_37 : decode cX10_digest 37 = .ok (.getfield 44, 3) := by decide +kernel
theorem dX10_digest_40 : decode cX10_digest 40 = .ok (.getfield 194, 3) := by decide +kernel
theorem dX10_digest_43 : decode cX10_digest 43 = .ok (.i2l, 1) := by decide +kernel
theorem dX10_digest_44 : decode cX10_digest 44 = .ok (.ladd, 1) := by decide +kernel
theorem dX10_digest_45 : decode cX10_digest 45 = .ok (.lstore_n 1, 1) := by decide +kernel
theorem dX10_digest_46 : decode cX10_digest 46 = .ok (.iconst 0, 1) := by decide +kernel
theorem dX10_digest_47 : decode cX10_digest 47 = .ok (.istore_n 3, 1) := by decide +kernel
theorem dX10_digest_48 : decode cX10_digest 48 = .ok (.iload_n 3, 1) := by decide +kernel
theorem dX10_digest_49 : decode cX10_digest 49 = .ok (.aload_n 0, 1) := by decide +kernel
theorem dX10_digest_50 : decode cX10_digest 50 = .ok (.getfield 35, 3) := by decide +kernel
theorem dX10_digest_53 : decode cX10_digest 53 = .ok (.getfield 165, 3) := by decide +kernel
theorem dX10_digest_56 : decode cX10_digest 56 = .ok (.if_icmp .ge 42, 3) := by decide +kernel
theorem dX10_digest_59 : decode cX10_digest 59 = .ok (.iconst 0, 1) := by decide +kernel
theorem dX10_digest_60 : decode cX10_digest 60 = .ok (.istore 4, 2) := by decide +kernel
theorem dX10_digest_62 : decode cX10_digest 62 = .ok (.iload 4, 2) := by decide +kernel
theorem dX10_digest_64 : decode cX10_digest 64 = .ok (.iconst 2, 1) := by decide +kernel
theorem dX10_digest_65 : decode cX10_digest 65 = .ok (.if_icmp .gt 27, 3) := by decide +kernel
theorem dX10_digest_68 : decode cX10_digest 68 = .ok (.ldc2_w 351, 3) := by decide +kernel
theorem dX10_digest_71 : decode cX10_digest 71 = .ok (.lload_n 1, 1) := by decide +kernel
theorem dX10_digest_72 : decode cX10_digest 72 = .ok (.lmul, 1) := by decide +kernel
theorem dX10_digest_73 : decode cX10_digest 73 = .ok (.aload_n 0, 1) := by decide +kernel
theorem dX10_digest_74 : decode cX10_digest 74 = .ok (.getfield 35, 3) := by decide +kernel
theorem dX10_digest_77 : decode cX10_digest 77 = .ok (.iload_n 3, 1) := by decide +kernel
theorem dX10_digest_78 : decode cX10_digest 78 = .ok (.iload 4, 2) := by decide +kernel
theorem dX10_digest_80 : decode cX10_digest 80 = .ok (.invokevirtual 171, 3) := by decide +kernel
theorem dX10_digest_83 : decode cX10_digest 83 = .ok (.i2l, 1) := by decide +kernel
theorem dX10_digest_84 : decode cX10_digest 84 = .ok (.ladd, 1) := by decide +kernel
theorem dX10_digest_85 : decode cX10_digest 85 = .ok (.lstore_n 1, 1) := by decide +kernel
theorem dX10_digest_86 : decode cX10_digest 86 = .ok (.iinc 4 1, 3) := by decide +kernel
theorem dX10_digest_89 : decode cX10_digest 89 = .ok (.goto (-27), 3) := by decide +kernel
theorem dX10_digest_92 : decode cX10_digest 92 = .ok (.iinc 3 1, 3) := by decide +kernel
theorem dX10_digest_95 : decode cX10_digest 95 = .ok (.goto (-47), 3) := by decide +kernel
theorem dX10_digest_98 : decode cX10_digest 98 = .ok (.iconst 0, 1) := by decide +kernel
theorem dX10_digest_99 : decode cX10_digest 99 = .ok (.istore_n 3, 1) := by decide +kernel
theorem dX10_digest_100 : decode cX10_digest 100 = .ok (.iload_n 3, 1) := by decide +kernel
theorem dX10_digest_101 : decode cX10_digest 101 = .ok (.aload_n 0, 1) := by decide +kernel
theorem dX10_digest_102 : decode cX10_digest 102 = .ok (.getfield 35, 3) := by decide +kernel
theorem dX10_digest_105 : decode cX10_digest 105 = .ok (.getfield 329, 3) := by decide +kernel
theorem dX10_digest_108 : decode cX10_digest 108 = .ok (.if_icmp .ge 29, 3) := by decide +kernel
theorem dX10_digest_111 : decode cX10_digest 111 = .ok (.ldc2_w 351, 3) := by decide +kernel
theorem dX10_digest_114 : decode cX10_digest 114 = .ok (.lload_n 1, 1) := by decide +kernel
theorem dX10_digest_115 : decode cX10_digest 115 = .ok (.lmul, 1) := by decide +kernel
theorem dX10_digest_116 : decode cX10_digest 116 = .ok (.aload_n 0, 1) := by decide +kernel
theorem dX10_digest_117 : decode cX10_digest 117 = .ok (.getfield 44, 3) := by decide +kernel
theorem dX10_digest_120 : decode cX10_digest 120 = .ok (.iload_n 3, 1) := by decide +kernel
theorem dX10_digest_121 : decode cX10_digest 121 = .ok (.invokevirtual 206, 3) := by decide +kernel
theorem dX10_digest_124 : decode cX10_digest 124 = .ok (.i2l, 1) := by decide +kernel
theorem dX10_digest_125 : decode cX10_digest 125 = .ok (.ladd, 1) := by decide +kernel
theorem dX10_digest_126 : decode cX10_digest 126 = .ok (.ldc2_w 353, 3) := by decide +kernel
theorem dX10_digest_129 : decode cX10_digest 129 = .ok (.ladd, 1) := by decide +kernel
theorem dX10_digest_130 : decode cX10_digest 130 = .ok (.lstore_n 1, 1) := by decide +kernel
theorem dX10_digest_131 : decode cX10_digest 131 = .ok (.iinc 3 1, 3) := by decide +kernel
theorem dX10_digest_134 : decode cX10_digest 134 = .ok (.goto (-34), 3) := by decide +kernel
theorem dX10_digest_137 : decode cX10_digest 137 = .ok (.aload_n 0, 1) := by decide +kernel
theorem dX10_digest_138 : decode cX10_digest 138 = .ok (.getfield 44, 3) := by decide +kernel
theorem dX10_digest_141 : decode cX10_digest 141 = .ok (.getfield 218, 3) := by decide +kernel
theorem dX10_digest_144 : decode cX10_digest 144 = .ok (.istore_n 3, 1) := by decide +kernel
theorem dX10_digest_145 : decode cX10_digest 145 = .ok (.iload_n 3, 1) := by decide +kernel
theorem dX10_digest_146 : decode cX10_digest 146 = .ok (.aload_n 0, 1) := by decide +kernel
theorem dX10_digest_147 : decode cX10_digest 147 = .ok (.getfield 44, 3) := by decide +kernel
theorem dX10_digest_150 : decode cX10_digest 150 = .ok (.getfield 194, 3) := by decide +kernel
theorem dX10_digest_153 : decode cX10_digest 153 = .ok (.if_icmp .ge 25, 3) := by decide +kernel
theorem dX10_digest_156 : decode cX10_digest 156 = .ok (.ldc2_w 351, 3) := by decide +kernel
theorem dX10_digest_159 : decode cX10_digest 159 = .ok (.lload_n 1, 1) := by decide +kernel
theorem dX10_digest_160 : decode cX10_digest 160 = .ok (.lmul, 1) := by decide +kernel
theorem dX10_digest_161 : decode cX10_digest 161 = .ok (.aload_n 0, 1) := by decide +kernel
theorem dX10_digest_162 : decode cX10_digest 162 = .ok (.getfield 44, 3) := by decide +kernel
theorem dX10_digest_165 : decode cX10_digest 165 = .ok (.iload_n 3, 1) := by decide +kernel
theorem dX10_digest_166 : decode cX10_digest 166 = .ok (.invokevirtual 200, 3) := by decide +kernel
theorem dX10_digest_169 : decode cX10_digest 169 = .ok (.i2l, 1) := by decide +kernel
theorem dX10_digest_170 : decode cX10_digest 170 = .ok (.ladd, 1) := by decide +kernel
theorem dX10_digest_171 : decode cX10_digest 171 = .ok (.lstore_n 1, 1) := by decide +kernel
theorem dX10_digest_172 : decode cX10_digest 172 = .ok (.iinc 3 1, 3) := by decide +kernel
theorem dX10_digest_175 : decode cX10_digest 175 = .ok (.goto (-30), 3) := by decide +kernel
theorem dX10_digest_178 : decode cX10_digest 178 = .ok (.iconst 0, 1) := by decide +kernel
theorem dX10_digest_179 : decode cX10_digest 179 = .ok (.istore_n 3, 1) := by decide +kernel
theorem dX10_digest_180 : decode cX10_digest 180 = .ok (.iload_n 3, 1) := by decide +kernel
theorem dX10_digest_181 : decode cX10_digest 181 = .ok (.iconst 3, 1) := by decide +kernel
theorem dX10_digest_182 : decode cX10_digest 182 = .ok (.if_icmp .ge 28, 3) := by decide +kernel
theorem dX10_digest_185 : decode cX10_digest 185 = .ok (.ldc2_w 351, 3) := by decide +kernel
theorem dX10_digest_188 : decode cX10_digest 188 = .ok (.lload_n 1, 1) := by decide +kernel
theorem dX10_digest_189 : decode cX10_digest 189 = .ok (.lmul, 1) := by decide +kernel
theorem dX10_digest_190 : decode cX10_digest 190 = .ok (.aload_n 0, 1) := by decide +kernel
theorem dX10_digest_191 : decode cX10_digest 191 = .ok (.getfield 51, 3) := by decide +kernel
theorem dX10_digest_194 : decode cX10_digest 194 = .ok (.getfield 161, 3) := by decide +kernel
theorem dX10_digest_197 : decode cX10_digest 197 = .ok (.iload_n 3, 1) := by decide +kernel
theorem dX10_digest_198 : decode cX10_digest 198 = .ok (.invokevirtual 137, 3) := by decide +kernel
theorem dX10_digest_201 : decode cX10_digest 201 = .ok (.i2l, 1) := by decide +kernel
theorem dX10_digest_202 : decode cX10_digest 202 = .ok (.ladd, 1) := by decide +kernel
theorem dX10_digest_203 : decode cX10_digest 203 = .ok (.lstore_n 1, 1) := by decide +kernel
theorem dX10_digest_204 : decode cX10_digest 204 = .ok (.iinc 3 1, 3) := by decide +kernel
theorem dX10_digest_207 : decode cX10_digest 207 = .ok (.goto (-27), 3) := by decide +kernel
theorem dX10_digest_210 : decode cX10_digest 210 = .ok (.aload_n 0, 1) := by decide +kernel
theorem dX10_digest_211 : decode cX10_digest 211 = .ok (.getfield 19, 3) := by decide +kernel
theorem dX10_digest_214 : decode cX10_digest 214 = .ok (.aload_n 0, 1) := by decide +kernel
theorem dX10_digest_215 : decode cX10_digest 215 = .ok (.getfield 10, 3) := by decide +kernel
theorem dX10_digest_218 : decode cX10_digest 218 = .ok (.lload_n 1, 1) := by decide +kernel
theorem dX10_digest_219 : decode cX10_digest 219 = .ok (.invokevirtual 355, 3) := by decide +kernel
theorem dX10_digest_222 : decode cX10_digest 222 = .ok (.invokevirtual 359, 3) := by decide +kernel
theorem dX10_digest_225 : decode cX10_digest 225 = .ok (.lreturn, 1) := by decide +kernel
theorem dX10_find_0 : decode cX10_find 0 = .ok (.aload_n 0, 1) := by decide +kernel
theorem dX10_find_1 : decode cX10_find 1 = .ok (.iload_n 1, 1) := by decide +kernel
theorem dX10_find_2 : decode cX10_find 2 = .ok (.putfield 346, 3) := by decide +kernel
theorem dX10_find_5 : decode cX10_find 5 = .ok (.iload_n 1, 1) := by decide +kernel
theorem dX10_find_6 : decode cX10_find 6 = .ok (.ifCond .lt 22, 3) := by decide +kernel
theorem dX10_find_9 : decode cX10_find 9 = .ok (.iload_n 1, 1) := by decide +kernel
theorem dX10_find_10 : decode cX10_find 10 = .ok (.aload_n 0, 1) := by decide +kernel
theorem dX10_find_11 : decode cX10_find 11 = .ok (.getfield 78, 3) := by decide +kernel
theorem dX10_find_14 : decode cX10_find 14 = .ok (.arraylength, 1) := by decide +kernel
theorem dX10_find_15 : decode cX10_find 15 = .ok (.if_icmp .ge 13, 3) := by decide +kernel
theorem dX10_find_18 : decode cX10_find 18 = .ok (.aload_n 0, 1) := by decide +kernel
theorem dX10_find_19 : decode cX10_find 19 = .ok (.getfield 78, 3) := by decide +kernel
theorem dX10_find_22 : decode cX10_find 22 = .ok (.iload_n 1, 1) := by decide +kernel
theorem dX10_find_23 : decode cX10_find 23 = .ok (.dup2, 1) := by decide +kernel
theorem dX10_find_24 : decode cX10_find 24 = .ok (.iaload, 1) := by decide +kernel
theorem dX10_find_25 : decode cX10_find 25 = .ok (.iconst 1, 1) := by decide +kernel
theorem dX10_find_26 : decode cX10_find 26 = .ok (.iadd, 1) := by decide +kernel
theorem dX10_find_27 : decode cX10_find 27 = .ok (.iastore, 1) := by decide +kernel
theorem dX10_find_28 : decode cX10_find 28 = .ok (.bipush (-3), 2) := by decide +kernel
theorem dX10_find_30 : decode cX10_find 30 = .ok (.ireturn, 1) := by decide +kernel
theorem dX10_refusalOfRow_0 : decode cX10_refusalOfRow 0 = .ok (.aload_n 0, 1) := by decide +kernel
theorem dX10_refusalOfRow_1 : decode cX10_refusalOfRow 1 = .ok (.getfield 10, 3) := by decide +kernel
theorem dX10_refusalOfRow_4 : decode cX10_refusalOfRow 4 = .ok (.getfield 86, 3) := by decide +kernel
theorem dX10_refusalOfRow_7 : decode cX10_refusalOfRow 7 = .ok (.iload_n 1, 1) := by decide +kernel
theorem dX10_refusalOfRow_8 : decode cX10_refusalOfRow 8 = .ok (.invokevirtual 90, 3) := by decide +kernel
theorem dX10_refusalOfRow_11 : decode cX10_refusalOfRow 11 = .ok (.ifCond .ne 5, 3) := by decide +kernel
theorem dX10_refusalOfRow_14 : decode cX10_refusalOfRow 14 = .ok (.iconst (-1), 1) := by decide +kernel
theorem dX10_refusalOfRow_15 : decode cX10_refusalOfRow 15 = .ok (.ireturn, 1) := by decide +kernel
theorem dX10_refusalOfRow_16 : decode cX10_refusalOfRow 16 = .ok (.aload_n 0, 1) := by decide +kernel
theorem dX10_refusalOfRow_17 : decode cX10_refusalOfRow 17 = .ok (.getfield 10, 3) := by decide +kernel
theorem dX10_refusalOfRow_20 : decode cX10_refusalOfRow 20 = .ok (.getfield 86, 3) := by decide +kernel
theorem dX10_refusalOfRow_23 : decode cX10_refusalOfRow 23 = .ok (.iload_n 1, 1) := by decide +kernel
theorem dX10_refusalOfRow_24 : decode cX10_refusalOfRow 24 = .ok (.invokevirtual 126, 3) := by decide +kernel
theorem dX10_refusalOfRow_27 : decode cX10_refusalOfRow 27 = .ok (.ifCond .eq 7, 3) := by decide +kernel
theorem dX10_refusalOfRow_30 : decode cX10_refusalOfRow 30 = .ok (.iconst 0, 1) := by decide +kernel
theorem dX10_refusalOfRow_31 : decode cX10_refusalOfRow 31 = .ok (.goto 8, 3) := by decide +kernel
theorem dX10_refusalOfRow_34 : decode cX10_refusalOfRow 34 = .ok (.aload_n 0, 1) := by decide +kernel
theorem dX10_refusalOfRow_35 : decode cX10_refusalOfRow 35 = .ok (.iconst 1, 1) := by decide +kernel
theorem dX10_refusalOfRow_36 : decode cX10_refusalOfRow 36 = .ok (.invokevirtual 96, 3) := by decide +kernel
theorem dX10_refusalOfRow_39 : decode cX10_refusalOfRow 39 = .ok (.ireturn, 1) := by decide +kernel
theorem dX10_refusalOfPlace_0 : decode cX10_refusalOfPlace 0 = .ok (.aload_n 0, 1) := by decide +kernel
theorem dX10_refusalOfPlace_1 : decode cX10_refusalOfPlace 1 = .ok (.iload_n 1, 1) := by decide +kernel
theorem dX10_refusalOfPlace_2 : decode cX10_refusalOfPlace 2 = .ok (.invokevirtual 119, 3) := by decide +kernel
theorem dX10_refusalOfPlace_5 : decode cX10_refusalOfPlace 5 = .ok (.istore_n 3, 1) := by decide +kernel
theorem dX10_refusalOfPlace_6 : decode cX10_refusalOfPlace 6 = .ok (.iload_n 3, 1) := by decide +kernel
theorem dX10_refusalOfPlace_7 : decode cX10_refusalOfPlace 7 = .ok (.ifCond .eq 5, 3) := by decide +kernel
theorem dX10_refusalOfPlace_10 : decode cX10_refusalOfPlace 10 = .ok (.iload_n 3, 1) := by decide +kernel
theorem dX10_refusalOfPlace_11 : decode cX10_refusalOfPlace 11 = .ok (.ireturn, 1) := by decide +kernel
theorem dX10_refusalOfPlace_12 : decode cX10_refusalOfPlace 12 = .ok (.aload_n 0, 1) := by decide +kernel
theorem dX10_refusalOfPlace_13 : decode cX10_refusalOfPlace 13 = .ok (.getfield 10, 3) := by decide +kernel
theorem dX10_refusalOfPlace_16 : decode cX10_refusalOfPlace 16 = .ok (.getfield 86, 3) := by decide +kernel
theorem dX10_refusalOfPlace_19 : decode cX10_refusalOfPlace 19 = .ok (.iload_n 1, 1) := by decide +kernel
theorem dX10_refusalOfPlace_20 : decode cX10_refusalOfPlace 20 = .ok (.iload_n 2, 1) := by decide +kernel
theorem dX10_refusalOfPlace_21 : decode cX10_refusalOfPlace 21 = .ok (.iconst 1, 1) := by decide +kernel
theorem dX10_refusalOfPlace_22 : decode cX10_refusalOfPlace 22 = .ok (.invokevirtual 129, 3) := by decide +kernel
theorem dX10_refusalOfPlace_25 : decode cX10_refusalOfPlace 25 = .ok (.ifCond .eq 7, 3) := by decide +kernel
theorem dX10_refusalOfPlace_28 : decode cX10_refusalOfPlace 28 = .ok (.iconst 0, 1) := by decide +kernel
theorem dX10_refusalOfPlace_29 : decode cX10_refusalOfPlace 29 = .ok (.goto 8, 3) := by decide +kernel
theorem dX10_refusalOfPlace_32 : decode cX10_refusalOfPlace 32 = .ok (.aload_n 0, 1) := by decide +kernel
theorem dX10_refusalOfPlace_33 : decode cX10_refusalOfPlace 33 = .ok (.iconst 2, 1) := by decide +kernel
theorem dX10_refusalOfPlace_34 : decode cX10_refusalOfPlace 34 = .ok (.invokevirtual 96, 3) := by decide +kernel
theorem dX10_refusalOfPlace_37 : decode cX10_refusalOfPlace 37 = .ok (.ireturn, 1) := by decide +kernel
theorem dX10_refusalOfText_0 : decode cX10_refusalOfText 0 = .ok (.aload_n 0, 1) := by decide +kernel
theorem dX10_refusalOfText_1 : decode cX10_refusalOfText 1 = .ok (.getfield 19, 3) := by decide +kernel
theorem dX10_refusalOfText_4 : decode cX10_refusalOfText 4 = .ok (.getfield 144, 3) := by decide +kernel
theorem dX10_refusalOfText_7 : decode cX10_refusalOfText 7 = .ok (.iload_n 1, 1) := by decide +kernel
theorem dX10_refusalOfText_8 : decode cX10_refusalOfText 8 = .ok (.invokevirtual 90, 3) := by decide +kernel
theorem dX10_refusalOfText_11 : decode cX10_refusalOfText 11 = .ok (.ifCond .ne 5, 3) := by decide +kernel
theorem dX10_refusalOfText_14 : decode cX10_refusalOfText 14 = .ok (.iconst (-1), 1) := by decide +kernel
theorem dX10_refusalOfText_15 : decode cX10_refusalOfText 15 = .ok (.ireturn, 1) := by decide +kernel
theorem dX10_refusalOfText_16 : decode cX10_refusalOfText 16 = .ok (.aload_n 0, 1) := by decide +kernel
theorem dX10_refusalOfText_17 : decode cX10_refusalOfText 17 = .ok (.getfield 19, 3) := by decide +kernel
theorem dX10_refusalOfText_20 : decode cX10_refusalOfText 20 = .ok (.getfield 144, 3) := by decide +kernel
theorem dX10_refusalOfText_23 : decode cX10_refusalOfText 23 = .ok (.iload_n 1, 1) := by decide +kernel
theorem dX10_refusalOfText_24 : decode cX10_refusalOfText 24 = .ok (.invokevirtual 126, 3) := by decide +kernel
theorem dX10_refusalOfText_27 : decode cX10_refusalOfText 27 = .ok (.ifCond .eq 7, 3) := by decide +kernel
theorem dX10_refusalOfText_30 : decode cX10_refusalOfText 30 = .ok (.iconst 0, 1) := by decide +kernel
theorem dX10_refusalOfText_31 : decode cX10_refusalOfText 31 = .ok (.goto 8, 3) := by decide +kernel
theorem dX10_refusalOfText_34 : decode cX10_refusalOfText 34 = .ok (.aload_n 0, 1) := by decide +kernel
theorem dX10_refusalOfText_35 : decode cX10_refusalOfText 35 = .ok (.iconst 1, 1) := by decide +kernel
theorem dX10_refusalOfText_36 : decode cX10_refusalOfText 36 = .ok (.invokevirtual 96, 3) := by decide +kernel
theorem dX10_refusalOfText_39 : decode cX10_refusalOfText 39 = .ok (.ireturn, 1) := by decide +kernel
theorem dX10_tellChance_0 : decode cX10_tellChance 0 = .ok (.iload_n 1, 1) := by decide +kernel
theorem dX10_tellChance_1 : decode cX10_tellChance 1 = .ok (.iload_n 2, 1) := by decide +kernel
theorem dX10_tellChance_2 : decode cX10_tellChance 2 = .ok (.invokestatic 360, 3) := by decide +kernel
theorem dX10_tellChance_5 : decode cX10_tellChance 5 = .ok (.istore_n 3, 1) := by decide +kernel
theorem dX10_tellChance_6 : decode cX10_tellChance 6 = .ok (.iload_n 3, 1) := by decide +kernel
theorem dX10_tellChance_7 : decode cX10_tellChance 7 = .ok (.ifCond .ne 4, 3) := by decide +kernel
theorem dX10_tellChance_10 : decode cX10_tellChance 10 = .ok (.return_, 1) := by decide +kernel
theorem dX10_tellChance_11 : decode cX10_tellChance 11 = .ok (.aload_n 0, 1) := by decide +kernel
theorem dX10_tellChance_12 : decode cX10_tellChance 12 = .ok (.iload_n 1, 1) := by decide +kernel
theorem dX10_tellChance_13 : decode cX10_tellChance 13 = .ok (.iload_n 3, 1) := by decide +kernel
theorem dX10_tellChance_14 : decode cX10_tellChance 14 = .ok (.idiv, 1) := by decide +kernel
theorem dX10_tellChance_15 : decode cX10_tellChance 15 = .ok (.i2l, 1) := by decide +kernel
theorem dX10_tellChance_16 : decode cX10_tellChance 16 = .ok (.putfield 340, 3) := by decide +kernel
theorem dX10_tellChance_19 : decode cX10_tellChance 19 = .ok (.aload_n 0, 1) := by decide +kernel
theorem dX10_tellChance_20 : decode cX10_tellChance 20 = .ok (.iload_n 2, 1) := by decide +kernel
theorem dX10_tellChance_21 : decode cX10_tellChance 21 = .ok (.iload_n 3, 1) := by decide +kernel
theorem dX10_tellChance_22 : decode cX10_tellChance 22 = .ok (.idiv, 1) := by decide +kernel
theorem dX10_tellChance_23 : decode cX10_tellChance 23 = .ok (.i2l, 1) := by decide +kernel
theorem dX10_tellChance_24 : decode cX10_tellChance 24 = .ok (.putfield 82, 3) := by decide +kernel
theorem dX10_tellChance_27 : decode cX10_tellChance 27 = .ok (.return_, 1) := by decide +kernel
theorem dX10_greatestDivisor_0 : decode cX10_greatestDivisor 0 = .ok (.iload_n 0, 1) := by decide +kernel
theorem dX10_greatestDivisor_1 : decode cX10_greatestDivisor 1 = .ok (.istore_n 2, 1) := by decide +kernel
theorem dX10_greatestDivisor_2 : decode cX10_greatestDivisor 2 = .ok (.iload_n 1, 1) := by decide +kernel
theorem dX10_greatestDivisor_3 : decode cX10_greatestDivisor 3 = .ok (.istore_n 3, 1) := by decide +kernel
theorem dX10_greatestDivisor_4 : decode cX10_greatestDivisor 4 = .ok (.iconst 0, 1) := by decide +kernel
theorem dX10_greatestDivisor_5 : decode cX10_greatestDivisor 5 = .ok (.istore 4, 2) := by decide +kernel
theorem dX10_greatestDivisor_7 : decode cX10_greatestDivisor 7 = .ok (.iload 4, 2) := by decide +kernel
theorem dX10_greatestDivisor_9 : decode cX10_greatestDivisor 9 = .ok (.bipush 64, 2) := by decide +kernel
theorem dX10_greatestDivisor_11 : decode cX10_greatestDivisor 11 = .ok (.if_icmp .ge 23, 3) := by decide +kernel
theorem dX10_greatestDivisor_14 : decode cX10_greatestDivisor 14 = .ok (.iload_n 3, 1) := by decide +kernel
theorem dX10_greatestDivisor_15 : decode cX10_greatestDivisor 15 = .ok (.ifCond .le 19, 3) := by decide +kernel
theorem dX10_greatestDivisor_18 : decode cX10_greatestDivisor 18 = .ok (.iload_n 2, 1) := by decide +kernel
theorem dX10_greatestDivisor_19 : decode cX10_greatestDivisor 19 = .ok (.iload_n 3, 1) := by decide +kernel
theorem dX10_greatestDivisor_20 : decode cX10_greatestDivisor 20 = .ok (.irem, 1) := by decide +kernel
theorem dX10_greatestDivisor_21 : decode cX10_greatestDivisor 21 = .ok (.istore 5, 2) := by decide +kernel
theorem dX10_greatestDivisor_23 : decode cX10_greatestDivisor 23 = .ok (.iload_n 3, 1) := by decide +kernel
theorem dX10_greatestDivisor_24 : decode cX10_greatestDivisor 24 = .ok (.istore_n 2, 1) := by decide +kernel
theorem dX10_greatestDivisor_25 : decode cX10_greatestDivisor 25 = .ok (.iload 5, 2) := by decide +kernel
theorem dX10_greatestDivisor_27 : decode cX10_greatestDivisor 27 = .ok (.istore_n 3, 1) := by decide +kernel
theorem dX10_greatestDivisor_28 : decode cX10_greatestDivisor 28 = .ok (.iinc 4 1, 3) := by decide +kernel
theorem dX10_greatestDivisor_31 : decode cX10_greatestDivisor 31 = .ok (.goto (-24), 3) := by decide +kernel
theorem dX10_greatestDivisor_34 : decode cX10_greatestDivisor 34 = .ok (.iload_n 2, 1) := by decide +kernel
theorem dX10_greatestDivisor_35 : decode cX10_greatestDivisor 35 = .ok (.ireturn, 1) := by decide +kernel
theorem dX10_slipByLot_0 : decode cX10_slipByLot 0 = .ok (.aload_n 0, 1) := by decide +kernel
theorem dX10_slipByLot_1 : decode cX10_slipByLot 1 = .ok (.getfield 35, 3) := by decide +kernel
theorem dX10_slipByLot_4 : decode cX10_slipByLot 4 = .ok (.getfield 329, 3) := by decide +kernel
theorem dX10_slipByLot_7 : decode cX10_slipByLot 7 = .ok (.ifCond .gt 4, 3) := by decide +kernel
theorem dX10_slipByLot_10 : decode cX10_slipByLot 10 = .ok (.return_, 1) := by decide +kernel
theorem dX10_slipByLot_11 : decode cX10_slipByLot 11 = .ok (.aload_n 0, 1) := by decide +kernel
theorem dX10_slipByLot_12 : decode cX10_slipByLot 12 = .ok (.getfield 35, 3) := by decide +kernel
theorem dX10_slipByLot_15 : decode cX10_slipByLot 15 = .ok (.aload_n 0, 1) := by decide +kernel
theorem dX10_slipByLot_16 : decode cX10_slipByLot 16 = .ok (.getfield 44, 3) := by decide +kernel
theorem dX10_slipByLot_19 : decode cX10_slipByLot 19 = .ok (.getfield 194, 3) := by decide +kernel
theorem dX10_slipByLot_22 : decode cX10_slipByLot 22 = .ok (.iconst 4, 1) := by decide +kernel
theorem dX10_slipByLot_23 : decode cX10_slipByLot 23 = .ok (.invokevirtual 180, 3) := by decide +kernel
theorem dX10_slipByLot_26 : decode cX10_slipByLot 26 = .ok (.ifCond .eq 7, 3) := by decide +kernel
theorem dX10_slipByLot_29 : decode cX10_slipByLot 29 = .ok (.iconst 2, 1) := by decide +kernel
theorem dX10_slipByLot_30 : decode cX10_slipByLot 30 = .ok (.goto 4, 3) := by decide +kernel
theorem dX10_slipByLot_33 : decode cX10_slipByLot 33 = .ok (.iconst 4, 1) := by decide +kernel
theorem dX10_slipByLot_34 : decode cX10_slipByLot 34 = .ok (.istore_n 2, 1) := by decide +kernel
theorem dX10_slipByLot_35 : decode cX10_slipByLot 35 = .ok (.iload_n 1, 1) := by decide +kernel
theorem dX10_slipByLot_36 : decode cX10_slipByLot 36 = .ok (.bipush 64, 2) := by decide +kernel
theorem dX10_slipByLot_38 : decode cX10_slipByLot 38 = .ok (.idiv, 1) := by decide +kernel
theorem dX10_slipByLot_39 : decode cX10_slipByLot 39 = .ok (.iload_n 2, 1) := by decide +kernel
theorem dX10_slipByLot_40 : decode cX10_slipByLot 40 = .ok (.irem, 1) := by decide +kernel
theorem dX10_slipByLot_41 : decode cX10_slipByLot 41 = .ok (.ifCond .eq 4, 3) := by decide +kernel
theorem dX10_slipByLot_44 : decode cX10_slipByLot 44 = .ok (.return_, 1) := by decide +kernel
theorem dX10_slipByLot_45 : decode cX10_slipByLot 45 = .ok (.iload_n 1, 1) := by decide +kernel
theorem dX10_slipByLot_46 : decode cX10_slipByLot 46 = .ok (.aload_n 0, 1) := by decide +kernel
theorem dX10_slipByLot_47 : decode cX10_slipByLot 47 = .ok (.getfield 35, 3) := by decide +kernel
theorem dX10_slipByLot_50 : decode cX10_slipByLot 50 = .ok (.getfield 329, 3) := by decide +kernel
theorem dX10_slipByLot_53 : decode cX10_slipByLot 53 = .ok (.irem, 1) := by decide +kernel
theorem dX10_slipByLot_54 : decode cX10_slipByLot 54 = .ok (.istore_n 3, 1) := by decide +kernel
theorem dX10_slipByLot_55 : decode cX10_slipByLot 55 = .ok (.iload_n 1, 1) := by decide +kernel
theorem dX10_slipByLot_56 : decode cX10_slipByLot 56 = .ok (.sipush 1024, 3) := by decide +kernel
theorem dX10_slipByLot_59 : decode cX10_slipByLot 59 = .ok (.idiv, 1) := by decide +kernel
theorem dX10_slipByLot_60 : decode cX10_slipByLot 60 = .ok (.iconst 2, 1) := by decide +kernel
theorem dX10_slipByLot_61 : decode cX10_slipByLot 61 = .ok (.irem, 1) := by decide +kernel
theorem dX10_slipByLot_62 : decode cX10_slipByLot 62 = .ok (.iconst 1, 1) := by decide +kernel
theorem dX10_slipByLot_63 : decode cX10_slipByLot 63 = .ok (.if_icmp .ne 7, 3) := by decide +kernel
theorem dX10_slipByLot_66 : decode cX10_slipByLot 66 = .ok (.iconst 1, 1) := by decide +kernel
theorem dX10_slipByLot_67 : decode cX10_slipByLot 67 = .ok (.goto 4, 3) := by decide +kernel
theorem dX10_slipByLot_70 : decode cX10_slipByLot 70 = .ok (.iconst (-1), 1) := by decide +kernel
theorem dX10_slipByLot_71 : decode cX10_slipByLot 71 = .ok (.istore 4, 2) := by decide +kernel
theorem dX10_slipByLot_73 : decode cX10_slipByLot 73 = .ok (.aload_n 0, 1) := by decide +kernel
theorem dX10_slipByLot_74 : decode cX10_slipByLot 74 = .ok (.getfield 44, 3) := by decide +kernel
theorem dX10_slipByLot_77 : decode cX10_slipByLot 77 = .ok (.iload_n 3, 1) := by decide +kernel
theorem dX10_slipByLot_78 : decode cX10_slipByLot 78 = .ok (.iload 4, 2) := by decide +kernel
theorem dX10_slipByLot_80 : decode cX10_slipByLot 80 = .ok (.invokevirtual 203, 3) := by decide +kernel
theorem dX10_slipByLot_83 : decode cX10_slipByLot 83 = .ok (.ifCond .eq 16, 3) := by decide +kernel
theorem dX10_slipByLot_86 : decode cX10_slipByLot 86 = .ok (.aload_n 0, 1) := by decide +kernel
theorem dX10_slipByLot_87 : decode cX10_slipByLot 87 = .ok (.getfield 44, 3) := by decide +kernel
theorem dX10_slipByLot_90 : decode cX10_slipByLot 90 = .ok (.iconst 1, 1) := by decide +kernel
theorem dX10_slipByLot_91 : decode cX10_slipByLot 91 = .ok (.iload_n 3, 1) := by decide +kernel
theorem dX10_slipByLot_92 : decode cX10_slipByLot 92 = .ok (.iload 4, 2) := by decide +kernel
theorem dX10_slipByLot_94 : decode cX10_slipByLot 94 = .ok (.iconst 1, 1) := by decide +kernel
theorem dX10_slipByLot_95 : decode cX10_slipByLot 95 = .ok (.iadd, 1) := by decide +kernel
theorem dX10_slipByLot_96 : decode cX10_slipByLot 96 = .ok (.invokevirtual 197, 3) := by decide +kernel
theorem dX10_slipByLot_99 : decode cX10_slipByLot 99 = .ok (.return_, 1) := by decide +kernel
theorem dX10_tally_0 : decode cX10_tally 0 = .ok (.iload_n 1, 1) := by decide +kernel
theorem dX10_tally_1 : decode cX10_tally 1 = .ok (.tableswitch 119 0 7 #[47, 55, 63, 71, 79, 88, 97, 108], 47) := by decide +kernel
theorem dX10_tally_48 : decode cX10_tally 48 = .ok (.aload_n 0, 1) := by decide +kernel
theorem dX10_tally_49 : decode cX10_tally 49 = .ok (.getfield 35, 3) := by decide +kernel
theorem dX10_tally_52 : decode cX10_tally 52 = .ok (.getfield 329, 3) := by decide +kernel
theorem dX10_tally_55 : decode cX10_tally 55 = .ok (.ireturn, 1) := by decide +kernel
theorem dX10_tally_56 : decode cX10_tally 56 = .ok (.aload_n 0, 1) := by decide +kernel
theorem dX10_tally_57 : decode cX10_tally 57 = .ok (.getfield 35, 3) := by decide +kernel
theorem dX10_tally_60 : decode cX10_tally 60 = .ok (.getfield 165, 3) := by decide +kernel
theorem dX10_tally_63 : decode cX10_tally 63 = .ok (.ireturn, 1) := by decide +kernel
theorem dX10_tally_64 : decode cX10_tally 64 = .ok (.aload_n 0, 1) := by decide +kernel
theorem dX10_tally_65 : decode cX10_tally 65 = .ok (.getfield 44, 3) := by decide +kernel
theorem dX10_tally_68 : decode cX10_tally 68 = .ok (.getfield 212, 3) := by decide +kernel
theorem dX10_tally_71 : decode cX10_tally 71 = .ok (.ireturn, 1) := by decide +kernel
theorem dX10_tally_72 : decode cX10_tally 72 = .ok (.aload_n 0, 1) := by decide +kernel
theorem dX10_tally_73 : decode cX10_tally 73 = .ok (.getfield 44, 3) := by decide +kernel
theorem dX10_tally_76 : decode cX10_tally 76 = .ok (.invokevirtual 363, 3) := by decide +kernel
theorem dX10_tally_79 : decode cX10_tally 79 = .ok (.ireturn, 1) := by decide +kernel
theorem dX10_tally_80 : decode cX10_tally 80 = .ok (.aload_n 0, 1) := by decide +kernel
theorem dX10_tally_81 : decode cX10_tally 81 = .ok (.getfield 35, 3) := by decide +kernel
theorem dX10_tally_84 : decode cX10_tally 84 = .ok (.iconst 3, 1) := by decide +kernel
theorem dX10_tally_85 : decode cX10_tally 85 = .ok (.invokevirtual 323, 3) := by decide +kernel
theorem dX10_tally_88 : decode cX10_tally 88 = .ok (.ireturn, 1) := by decide +kernel
theorem dX10_tally_89 : decode cX10_tally 89 = .ok (.aload_n 0, 1) := by decide +kernel
theorem dX10_tally_90 : decode cX10_tally 90 = .ok (.getfield 35, 3) := by decide +kernel
theorem dX10_tally_93 : decode cX10_tally 93 = .ok (.iconst 2, 1) := by decide +kernel
theorem dX10_tally_94 : decode cX10_tally 94 = .ok (.invokevirtual 323, 3) := by decide +kernel
theorem dX10_tally_97 : decode cX10_tally 97 = .ok (.ireturn, 1) := by decide +kernel
theorem dX10_tally_98 : decode cX10_tally 98 = .ok (.aload_n 0, 1) := by decide +kernel
theorem dX10_tally_99 : decode cX10_tally 99 = .ok (.getfield 10, 3) := by decide +kernel
theorem dX10_tally_102 : decode cX10_tally 102 = .ok (.getfield 86, 3) := by decide +kernel
theorem dX10_tally_105 : decode cX10_tally 105 = .ok (.invokevirtual 366, 3) := by decide +kernel
theorem dX10_tally_108 : decode cX10_tally 108 = .ok (.ireturn, 1) := by decide +kernel
theorem dX10_tally_109 : decode cX10_tally 109 = .ok (.aload_n 0, 1) := by decide +kernel
theorem dX10_tally_110 : decode cX10_tally 110 = .ok (.getfield 19, 3) := by decide +kernel
theorem dX10_tally_113 : decode cX10_tally 113 = .ok (.getfield 144, 3) := by decide +kernel
theorem dX10_tally_116 : decode cX10_tally 116 = .ok (.invokevirtual 366, 3) := by decide +kernel
theorem dX10_tally_119 : decode cX10_tally 119 = .ok (.ireturn, 1) := by decide +kernel
theorem dX10_tally_120 : decode cX10_tally 120 = .ok (.aload_n 0, 1) := by decide +kernel
theorem dX10_tally_121 : decode cX10_tally 121 = .ok (.getfield 51, 3) := by decide +kernel
theorem dX10_tally_124 : decode cX10_tally 124 = .ok (.getfield 161, 3) := by decide +kernel
theorem dX10_tally_127 : decode cX10_tally 127 = .ok (.invokevirtual 366, 3) := by decide +kernel
theorem dX10_tally_130 : decode cX10_tally 130 = .ok (.ireturn, 1) := by decide +kernel
theorem dX10_allOuts_0 : decode cX10_allOuts 0 = .ok (.iconst 1, 1) := by decide +kernel
theorem dX10_allOuts_1 : decode cX10_allOuts 1 = .ok (.istore_n 1, 1) := by decide +kernel
theorem dX10_allOuts_2 : decode cX10_allOuts 2 = .ok (.iconst 0, 1) := by decide +kernel
theorem dX10_allOuts_3 : decode cX10_allOuts 3 = .ok (.istore_n 2, 1) := by decide +kernel
theorem dX10_allOuts_4 : decode cX10_allOuts 4 = .ok (.iload_n 2, 1) := by decide +kernel
theorem dX10_allOuts_5 : decode cX10_allOuts 5 = .ok (.iload_n 0, 1) := by decide +kernel
theorem dX10_allOuts_6 : decode cX10_allOuts 6 = .ok (.if_icmp .ge 13, 3) := by decide +kernel
theorem dX10_allOuts_9 : decode cX10_allOuts 9 = .ok (.iload_n 1, 1) := by decide +kernel
theorem dX10_allOuts_10 : decode cX10_allOuts 10 = .ok (.iconst 5, 1) := by decide +kernel
theorem dX10_allOuts_11 : decode cX10_allOuts 11 = .ok (.imul, 1) := by decide +kernel
theorem dX10_allOuts_12 : decode cX10_allOuts 12 = .ok (.istore_n 1, 1) := by decide +kernel
theorem dX10_allOuts_13 : decode cX10_allOuts 13 = .ok (.iinc 2 1, 3) := by decide +kernel
theorem dX10_allOuts_16 : decode cX10_allOuts 16 = .ok (.goto (-12), 3) := by decide +kernel
theorem dX10_allOuts_19 : decode cX10_allOuts 19 = .ok (.iload_n 1, 1) := by decide +kernel
theorem dX10_allOuts_20 : decode cX10_allOuts 20 = .ok (.ireturn, 1) := by decide +kernel
theorem dX10_spell_0 : decode cX10_spell 0 = .ok (.iload_n 0, 1) := by decide +kernel
theorem dX10_spell_1 : decode cX10_spell 1 = .ok (.istore_n 2, 1) := by decide +kernel
theorem dX10_spell_2 : decode cX10_spell 2 = .ok (.iconst 0, 1) := by decide +kernel
theorem dX10_spell_3 : decode cX10_spell 3 = .ok (.istore_n 3, 1) := by decide +kernel
theorem dX10_spell_4 : decode cX10_spell 4 = .ok (.iload_n 3, 1) := by decide +kernel
theorem dX10_spell_5 : decode cX10_spell 5 = .ok (.aload_n 1, 1) := by decide +kernel
theorem dX10_spell_6 : decode cX10_spell 6 = .ok (.arraylength, 1) := by decide +kernel
theorem dX10_spell_7 : decode cX10_spell 7 = .ok (.if_icmp .ge 21, 3) := by decide +kernel
theorem dX10_spell_10 : decode cX10_spell 10 = .ok (.aload_n 1, 1) := by decide +kernel
theorem dX10_spell_11 : decode cX10_spell 11 = .ok (.iload_n 3, 1) := by decide +kernel
theorem dX10_spell_12 : decode cX10_spell 12 = .ok (.iload_n 2, 1) := by decide +kernel
theorem dX10_spell_13 : decode cX10_spell 13 = .ok (.iconst 5, 1) := by decide +kernel
theorem dX10_spell_14 : decode cX10_spell 14 = .ok (.irem, 1) := by decide +kernel
theorem dX10_spell_15 : decode cX10_spell 15 = .ok (.iconst 2, 1) := by decide +kernel
theorem dX10_spell_16 : decode cX10_spell 16 = .ok (.isub, 1) := by decide +kernel
theorem dX10_spell_17 : decode cX10_spell 17 = .ok (.iastore, 1) := by decide +kernel
theorem dX10_spell_18 : decode cX10_spell 18 = .ok (.iload_n 2, 1) := by decide +kernel
theorem dX10_spell_19 : decode cX10_spell 19 = .ok (.iconst 5, 1) := by decide +kernel
theorem dX10_spell_20 : decode cX10_spell 20 = .ok (.idiv, 1) := by decide +kernel
theorem dX10_spell_21 : decode cX10_spell 21 = .ok (.istore_n 2, 1) := by decide +kernel
theorem dX10_spell_22 : decode cX10_spell 22 = .ok (.iinc 3 1, 3) := by decide +kernel
theorem dX10_spell_25 : decode cX10_spell 25 = .ok (.goto (-21), 3) := by decide +kernel
theorem dX10_spell_28 : decode cX10_spell 28 = .ok (.return_, 1) := by decide +kernel
theorem dX11_init_0 : decode cX11_init 0 = .ok (.aload_n 0, 1) := by decide +kernel
theorem dX11_init_1 : decode cX11_init 1 = .ok (.invokespecial 1, 3) := by decide +kernel
theorem dX11_init_4 : decode cX11_init 4 = .ok (.aload_n 0, 1) := by decide +kernel
theorem dX11_init_5 : decode cX11_init 5 = .ok (.bipush 6, 2) := by decide +kernel
theorem dX11_init_7 : decode cX11_init 7 = .ok (.newarray .int, 2) := by decide +kernel
theorem dX11_init_9 : decode cX11_init 9 = .ok (.putfield 7, 3) := by decide +kernel
theorem dX11_init_12 : decode cX11_init 12 = .ok (.aload_n 0, 1) := by decide +kernel
theorem dX11_init_13 : decode cX11_init 13 = .ok (.sipush 240, 3) := by decide +kernel
theorem dX11_init_16 : decode cX11_init 16 = .ok (.newarray .int, 2) := by decide +kernel
theorem dX11_init_18 : decode cX11_init 18 = .ok (.putfield 13, 3) := by decide +kernel
theorem dX11_init_21 : decode cX11_init 21 = .ok (.aload_n 0, 1) := by decide +kernel
theorem dX11_init_22 : decode cX11_init 22 = .ok (.iconst 4, 1) := by decide +kernel
theorem dX11_init_23 : decode cX11_init 23 = .ok (.newarray .int, 2) := by decide +kernel
theorem dX11_init_25 : decode cX11_init 25 = .ok (.putfield 16, 3) := by decide +kernel
theorem dX11_init_28 : decode cX11_init 28 = .ok (.aload_n 0, 1) := by decide +kernel
theorem dX11_init_29 : decode cX11_init 29 = .ok (.sipush 320, 3) := by decide +kernel
theorem dX11_init_32 : decode cX11_init 32 = .ok (.newarray .byte, 2) := by decide +kernel
theorem dX11_init_34 : decode cX11_init 34 = .ok (.putfield 19, 3) := by decide +kernel
theorem dX11_init_37 : decode cX11_init 37 = .ok (.aload_n 0, 1) := by decide +kernel
theorem dX11_init_38 : decode cX11_init 38 = .ok (.bipush 40, 2) := by decide +kernel
theorem dX11_init_40 : decode cX11_init 40 = .ok (.newarray .int, 2) := by decide +kernel
theorem dX11_init_42 : decode cX11_init 42 = .ok (.putfield 23, 3) := by decide +kernel
theorem dX11_init_45 : decode cX11_init 45 = .ok (.aload_n 0, 1) := by decide +kernel
theorem dX11_init_46 : decode cX11_init 46 = .ok (.bipush 14, 2) := by decide +kernel
theorem dX11_init_48 : decode cX11_init 48 = .ok (.newarray .int, 2) := by decide +kernel
theorem dX11_init_50 : decode cX11_init 50 = .ok (.putfield 26, 3) := by decide +kernel
theorem dX11_init_53 : decode cX11_init 53 = .ok (.aload_n 0, 1) := by decide +kernel
theorem dX11_init_54 : decode cX11_init 54 = .ok (.bipush 56, 2) := by decide +kernel
theorem dX11_init_56 : decode cX11_init 56 = .ok (.newarray .int, 2) := by decide +kernel
theorem dX11_init_58 : decode cX11_init 58 = .ok (.putfield 29, 3) := by decide +kernel
theorem dX11_init_61 : decode cX11_init 61 = .ok (.aload_n 0, 1) := by decide +kernel
theorem dX11_init_62 : decode cX11_init 62 = .ok (.bipush 14, 2) := by decide +kernel
theorem dX11_init_64 : decode cX11_init 64 = .ok (.newarray .int, 2) := by decide +kernel
theorem dX11_init_66 : decode cX11_init 66 = .ok (.putfield 32, 3) := by decide +kernel
theorem dX11_init_69 : decode cX11_init 69 = .ok (.aload_n 0, 1) := by decide +kernel
theorem dX11_init_70 : decode cX11_init 70 = .ok (.bipush 56, 2) := by decide +kernel
theorem dX11_init_72 : decode cX11_init 72 = .ok (.newarray .int, 2) := by decide +kernel
theorem dX11_init_74 : decode cX11_init 74 = .ok (.putfield 35, 3) := by decide +kernel
theorem dX11_init_77 : decode cX11_init 77 = .ok (.aload_n 0, 1) := by decide +kernel
theorem dX11_init_78 : decode cX11_init 78 = .ok (.iconst 4, 1) := by decide +kernel
theorem dX11_init_79 : decode cX11_init 79 = .ok (.newarray .int, 2) := by decide +kernel
theorem dX11_init_81 : decode cX11_init 81 = .ok (.putfield 38, 3) := by decide +kernel
theorem dX11_init_84 : decode cX11_init 84 = .ok (.aload_n 0, 1) := by decide +kernel
theorem dX11_init_85 : decode cX11_init 85 = .ok (.sipush 480, 3) := by decide +kernel
theorem dX11_init_88 : decode cX11_init 88 = .ok (.newarray .int, 2) := by decide +kernel
theorem dX11_init_90 : decode cX11_init 90 = .ok (.putfield 41, 3) := by decide +kernel
theorem dX11_init_93 : decode cX11_init 93 = .ok (.aload_n 0, 1) := by decide +kernel
theorem dX11_init_94 : decode cX11_init 94 = .ok (.iconst 4, 1) := by decide +kernel
theorem dX11_init_95 : decode cX11_init 95 = .ok (.newarray .int, 2) := by decide +kernel
theorem dX11_init_97 : decode cX11_init 97 = .ok (.putfield 44, 3) := by decide +kernel
theorem dX11_init_100 : decode cX11_init 100 = .ok (.aload_n 0, 1) := by decide +kernel
theorem dX11_init_101 : decode cX11_init 101 = .ok (.bipush 40, 2) := by decide +kernel
theorem dX11_init_103 : decode cX11_init 103 = .ok (.newarray .int, 2) := by decide +kernel
theorem dX11_init_105 : decode cX11_init 105 = .ok (.putfield 47, 3) := by decide +kernel
theorem dX11_init_108 : decode cX11_init 108 = .ok (.aload_n 0, 1) := by decide +kernel
theorem dX11_init_109 : decode cX11_init 109 = .ok (.lconst 1, 1) := by decide +kernel
theorem dX11_init_110 : decode cX11_init 110 = .ok (.putfield 50, 3) := by decide +kernel
theorem dX11_init_113 : decode cX11_init 113 = .ok (.aload_n 0, 1) := by decide +kernel
theorem dX11_init_114 : decode cX11_init 114 = .ok (.bipush 6, 2) := by decide +kernel
theorem dX11_init_116 : decode cX11_init 116 = .ok (.newarray .int, 2) := by decide +kernel
theorem dX11_init_118 : decode cX11_init 118 = .ok (.putfield 54, 3) := by decide +kernel
theorem dX11_init_121 : decode cX11_init 121 = .ok (.aload_n 0, 1) := by decide +kernel
theorem dX11_init_122 : decode cX11_init 122 = .ok (.iconst 4, 1) := by decide +kernel
theorem dX11_init_123 : decode cX11_init 123 = .ok (.newarray .int, 2) := by decide +kernel
theorem dX11_init_125 : decode cX11_init 125 = .ok (.putfield 57, 3) := by decide +kernel
theorem dX11_init_128 : decode cX11_init 128 = .ok (.aload_n 0, 1) := by decide +kernel
theorem dX11_init_129 : decode cX11_init 129 = .ok (.iconst 4, 1) := by decide +kernel
theorem dX11_init_130 : decode cX11_init 130 = .ok (.newarray .int, 2) := by decide +kernel
theorem dX11_init_132 : decode cX11_init 132 = .ok (.putfield 60, 3) := by decide +kernel
theorem dX11_init_135 : decode cX11_init 135 = .ok (.aload_n 0, 1) := by decide +kernel
theorem dX11_init_136 : decode cX11_init 136 = .ok (.iconst 5, 1) := by decide +kernel
theorem dX11_init_137 : decode cX11_init 137 = .ok (.newarray .long, 2) := by decide +kernel
theorem dX11_init_139 : decode cX11_init 139 = .ok (.putfield 63, 3) := by decide +kernel
theorem dX11_init_142 : decode cX11_init 142 = .ok (.iconst 0, 1) := by decide +kernel
theorem dX11_init_143 : decode cX11_init 143 = .ok (.istore_n 1, 1) := by decide +kernel
theorem dX11_init_144 : decode cX11_init 144 = .ok (.iload_n 1, 1) := by decide +kernel
theorem dX11_init_145 : decode cX11_init 145 = .ok (.bipush 6, 2) := by decide +kernel
theorem dX11_init_147 : decode cX11_init 147 = .ok (.if_icmp .ge 16, 3) := by decide +kernel
theorem dX11_init_150 : decode cX11_init 150 = .ok (.aload_n 0, 1) := by decide +kernel
theorem dX11_init_151 : decode cX11_init 151 = .ok (.getfield 7, 3) := by decide +kernel
theorem dX11_init_154 : decode cX11_init 154 = .ok (.iload_n 1, 1) := by decide +kernel
theorem dX11_init_155 : decode cX11_init 155 = .ok (.iconst (-1), 1) := by decide +kernel
theorem dX11_init_156 : decode cX11_init 156 = .ok (.iastore, 1) := by decide +kernel
theorem dX11_init_157 : decode cX11_init 157 = .ok (.iinc 1 1, 3) := by decide +kernel
theorem dX11_init_160 : decode cX11_init 160 = .ok (.goto (-16), 3) := by decide +kernel
theorem dX11_init_163 : decode cX11_init 163 = .ok (.iconst 0, 1) := by decide +kernel
theorem dX11_init_164 : decode cX11_init 164 = .ok (.istore_n 1, 1) := by decide +kernel
theorem dX11_init_165 : decode cX11_init 165 = .ok (.iload_n 1, 1) := by decide +kernel
theorem dX11_init_166 : decode cX11_init 166 = .ok (.iconst 4, 1) := by decide +kernel
theorem dX11_init_167 : decode cX11_init 167 = .ok (.if_icmp .ge 16, 3) := by decide +kernel
theorem dX11_init_170 : decode cX11_init 170 = .ok (.aload_n 0, 1) := by decide +kernel
theorem dX11_init_171 : decode cX11_init 171 = .ok (.getfield 16, 3) := by decide +kernel
theorem dX11_init_174 : decode cX11_init 174 = .ok (.iload_n 1, 1) := by decide +kernel
theorem dX11_init_175 : decode cX11_init 175 = .ok (.iconst (-1), 1) := by decide +kernel
theorem dX11_init_176 : decode cX11_init 176 = .ok (.iastore, 1) := by decide +kernel
theorem dX11_init_177 : decode cX11_init 177 = .ok (.iinc 1 1, 3) := by decide +kernel
theorem dX11_init_180 : decode cX11_init 180 = .ok (.goto (-15), 3) := by decide +kernel
theorem dX11_init_183 : decode cX11_init 183 = .ok (.iconst 1, 1) := by decide +kernel
theorem dX11_init_184 : decode cX11_init 184 = .ok (.istore_n 1, 1) := by decide +kernel
theorem dX11_init_185 : decode cX11_init 185 = .ok (.iload_n 1, 1) := by decide +kernel
theorem dX11_init_186 : decode cX11_init 186 = .ok (.iconst 4, 1) := by decide +kernel
theorem dX11_init_187 : decode cX11_init 187 = .ok (.if_icmp .ge 16, 3) := by decide +kernel
theorem dX11_init_190 : decode cX11_init 190 = .ok (.aload_n 0, 1) := by decide +kernel
theorem dX11_init_191 : decode cX11_init 191 = .ok (.getfield 38, 3) := by decide +kernel
theorem dX11_init_194 : decode cX11_init 194 = .ok (.iload_n 1, 1) := by decide +kernel
theorem dX11_init_195 : decode cX11_init 195 = .ok (.iconst (-1), 1) := by decide +kernel
theorem dX11_init_196 : decode cX11_init 196 = .ok (.iastore, 1) := by decide +kernel
theorem dX11_init_197 : decode cX11_init 197 = .ok (.iinc 1 1, 3) := by decide +kernel
theorem dX11_init_200 : decode cX11_init 200 = .ok (.goto (-15), 3) := by decide +kernel
theorem dX11_init_203 : decode cX11_init 203 = .ok (.return_, 1) := by decide +kernel
theorem dX11_in_0 : decode cX11_in 0 = .ok (.lload_n 0, 1) := by decide +kernel
theorem dX11_in_1 : decode cX11_in 1 = .ok (.lload_n 2, 1) := by decide +kernel
theorem dX11_in_2 : decode cX11_in 2 = .ok (.lcmp, 1) := by decide +kernel
theorem dX11_in_3 : decode cX11_in 3 = .ok (.ifCond .lt 14, 3) := by decide +kernel
theorem dX11_in_6 : decode cX11_in 6 = .ok (.lload_n 0, 1) := by decide +kernel
theorem dX11_in_7 : decode cX11_in 7 = .ok (.lload 4, 2) := by decide +kernel
theorem dX11_in_9 : decode cX11_in 9 = .ok (.lcmp, 1) := by decide +kernel
theorem dX11_in_10 : decode cX11_in 10 = .ok (.ifCond .gt 7, 3) := by decide +kernel
theorem dX11_in_13 : decode cX11_in 13 = .ok (.iconst 1, 1) := by decide +kernel
theorem dX11_in_14 : decode cX11_in 14 = .ok (.goto 4, 3) := by decide +kernel
theorem dX11_in_17 : decode cX11_in 17 = .ok (.iconst 0, 1) := by decide +kernel
theorem dX11_in_18 : decode cX11_in 18 = .ok (.ireturn, 1) := by decide +kernel
theorem dX11_finds_0 : decode cX11_finds 0 = .ok (.aload_n 0, 1) := by decide +kernel
theorem dX11_finds_1 : decode cX11_finds 1 = .ok (.iload_n 1, 1) := by decide +kernel
theorem dX11_finds_2 : decode cX11_finds 2 = .ok (.putfield 67, 3) := by decide +kernel
theorem dX11_finds_5 : decode cX11_finds 5 = .ok (.aload_n 0, 1) := by decide +kernel
theorem dX11_finds_6 : decode cX11_finds 6 = .ok (.getfield 54, 3) := by decide +kernel
theorem dX11_finds_9 : decode cX11_finds 9 = .ok (.iload_n 1, 1) := by decide +kernel
theorem dX11_finds_10 : decode cX11_finds 10 = .ok (.dup2, 1) := by decide +kernel
theorem dX11_finds_11 : decode cX11_finds 11 = .ok (.iaload, 1) := by decide +kernel
theorem dX11_finds_12 : decode cX11_finds 12 = .ok (.iconst 1, 1) := by decide +kernel
theorem dX11_finds_13 : decode cX11_finds 13 = .ok (.iadd, 1) := by decide +kernel
theorem dX11_finds_14 : decode cX11_finds 14 = .ok (.iastore, 1) := by decide +kernel
theorem dX11_finds_15 : decode cX11_finds 15 = .ok (.bipush (-3), 2) := by decide +kernel
theorem dX11_finds_17 : decode cX11_finds 17 = .ok (.ireturn, 1) := by decide +kernel
theorem dX11_asks_0 : decode cX11_asks 0 = .ok (.aload_n 0, 1) := by decide +kernel
theorem dX11_asks_1 : decode cX11_asks 1 = .ok (.iload_n 1, 1) := by decide +kernel
theorem dX11_asks_2 : decode cX11_asks 2 = .ok (.putfield 71, 3) := by decide +kernel
theorem dX11_asks_5 : decode cX11_asks 5 = .ok (.iload_n 2, 1) := by decide +kernel
theorem dX11_asks_6 : decode cX11_asks 6 = .ok (.ireturn, 1) := by decide +kernel
theorem dX11_row_0 : decode cX11_row 0 = .ok (.iload_n 1, 1) := by decide +kernel
theorem dX11_row_1 : decode cX11_row 1 = .ok (.i2l, 1) := by decide +kernel
theorem dX11_row_2 : decode cX11_row 2 = .ok (.lconst 0, 1) := by decide +kernel
theorem dX11_row_3 : decode cX11_row 3 = .ok (.ldc2_w 74, 3) := by decide +kernel
theorem dX11_row_6 : decode cX11_row 6 = .ok (.invokestatic 76, 3) := by decide +kernel
theorem dX11_row_9 : decode cX11_row 9 = .ok (.ifCond .eq 9, 3) := by decide +kernel
theorem dX11_row_12 : decode cX11_row 12 = .ok (.iload_n 2, 1) := by decide +kernel
theorem dX11_row_13 : decode cX11_row 13 = .ok (.bipush 40, 2) := by decide +kernel
theorem dX11_row_15 : decode cX11_row 15 = .ok (.if_icmp .le 5, 3) := by decide +kernel
theorem dX11_row_18 : decode cX11_row 18 = .ok (.iconst (-1), 1) := by decide +kernel
theorem dX11_row_19 : decode cX11_row 19 = .ok (.ireturn, 1) := by decide +kernel
theorem dX11_row_20 : decode cX11_row 20 = .ok (.iload_n 2, 1) := by decide +kernel
theorem dX11_row_21 : decode cX11_row 21 = .ok (.ifCond .ge 9, 3) := by decide +kernel
theorem dX11_row_24 : decode cX11_row 24 = .ok (.aload_n 0, 1) := by decide +kernel
theorem dX11_row_25 : decode cX11_row 25 = .ok (.iconst 5, 1) := by decide +kernel
theorem dX11_row_26 : decode cX11_row 26 = .ok (.invokevirtual 80, 3) := by decide +kernel
theorem dX11_row_29 : decode cX11_row 29 = .ok (.ireturn, 1) := by decide +kernel
theorem dX11_row_30 : decode cX11_row 30 = .ok (.aload_n 0, 1) := by decide +kernel
theorem dX11_row_31 : decode cX11_row 31 = .ok (.getfield 7, 3) := by decide +kernel
theorem dX11_row_34 : decode cX11_row 34 = .ok (.iload_n 1, 1) := by decide +kernel
theorem dX11_row_35 : decode cX11_row 35 = .ok (.iload_n 2, 1) := by decide +kernel
theorem dX11_row_36 : decode cX11_row 36 = .ok (.iastore, 1) := by decide +kernel
theorem dX11_row_37 : decode cX11_row 37 = .ok (.iconst 0, 1) := by decide +kernel
theorem dX11_row_38 : decode cX11_row 38 = .ok (.istore_n 3, 1) := by decide +kernel
theorem dX11_row_39 : decode cX11_row 39 = .ok (.iload_n 3, 1) := by decide +kernel
theorem dX11_row_40 : decode cX11_row 40 = .ok (.iload_n 2, 1) := by decide +kernel
theorem dX11_row_41 : decode cX11_row 41 = .ok (.if_icmp .ge 21, 3) := by decide +kernel
theorem dX11_row_44 : decode cX11_row 44 = .ok (.aload_n 0, 1) := by decide +kernel
theorem dX11_row_45 : decode cX11_row 45 = .ok (.getfield 13, 3) := by decide +kernel
theorem dX11_row_48 : decode cX11_row 48 = .ok (.bipush 40, 2) := by decide +kernel
theorem dX11_row_50 : decode cX11_row 50 = .ok (.iload_n 1, 1) := by decide +kernel
theorem dX11_row_51 : decode cX11_row 51 = .ok (.imul, 1) := by decide +kernel
theorem dX11_row_52 : decode cX11_row 52 = .ok (.iload_n 3, 1) := by decide +kernel
theorem dX11_row_53 : decode cX11_row 53 = .ok (.iadd, 1) := by decide +kernel
theorem dX11_row_54 : decode cX11_row 54 = .ok (.iconst 0, 1) := by decide +kernel
theorem dX11_row_55 : decode cX11_row 55 = .ok (.iastore, 1) := by decide +kernel
theorem dX11_row_56 : decode cX11_row 56 = .ok (.iinc 3 1, 3) := by decide +kernel
theorem dX11_row_59 : decode cX11_row 59 = .ok (.goto (-20), 3) := by decide +kernel
theorem dX11_row_62 : decode cX11_row 62 = .ok (.iload_n 2, 1) := by decide +kernel
theorem dX11_row_63 : decode cX11_row 63 = .ok (.ireturn, 1) := by decide +kernel
theorem dX11_lay_0 : decode cX11_lay 0 = .ok (.iload_n 1, 1) := by decide +kernel
theorem dX11_lay_1 : decode cX11_lay 1 = .ok (.i2l, 1) := by decide +kernel
theorem dX11_lay_2 : decode cX11_lay 2 = .ok (.lconst 0, 1) := by decide +kernel
theorem dX11_lay_3 : decode cX11_lay 3 = .ok (.ldc2_w 74, 3) := by decide +kernel
theorem dX11_lay_6 : decode cX11_lay 6 = .ok (.invokestatic 76, 3) := by decide +kernel
theorem dX11_lay_9 : decode cX11_lay 9 = .ok (.ifCond .ne 5, 3) := by decide +kernel
theorem dX11_lay_12 : decode cX11_lay 12 = .ok (.iconst (-1), 1) := by decide +kernel
theorem dX11_lay_13 : decode cX11_lay 13 = .ok (.ireturn, 1) := by decide +kernel
theorem dX11_lay_14 : decode cX11_lay 14 = .ok (.aload_n 0, 1) := by decide +kernel
theorem dX11_lay_15 : decode cX11_lay 15 = .ok (.getfield 7, 3) := by decide +kernel
theorem dX11_lay_18 : decode cX11_lay 18 = .ok (.iload_n 1, 1) := by decide +kernel
theorem dX11_lay_19 : decode cX11_lay 19 = .ok (.iaload, 1) := by decide +kernel
theorem dX11_lay_20 : decode cX11_lay 20 = .ok (.ifCond .ge 9, 3) := by decide +kernel
theorem dX11_lay_23 : decode cX11_lay 23 = .ok (.aload_n 0, 1) := by decide +kernel
theorem dX11_lay_24 : decode cX11_lay 24 = .ok (.iconst 1, 1) := by decide +kernel
theorem dX11_lay_25 : decode cX11_lay 25 = .ok (.invokevirtual 80, 3) := by decide +kernel
theorem dX11_lay_28 : decode cX11_lay 28 = .ok (.ireturn, 1) := by decide +kernel
theorem dX11_lay_29 : decode cX11_lay 29 = .ok (.iload_n 2, 1) := by decide +kernel
theorem dX11_lay_30 : decode cX11_lay 30 = .ok (.i2l, 1) := by decide +kernel
theorem dX11_lay_31 : decode cX11_lay 31 = .ok (.lconst 0, 1) := by decide +kernel
theorem dX11_lay_32 : decode cX11_lay 32 = .ok (.aload_n 0, 1) := by decide +kernel
theorem dX11_lay_33 : decode cX11_lay 33 = .ok (.getfield 7, 3) := by decide +kernel
theorem dX11_lay_36 : decode cX11_lay 36 = .ok (.iload_n 1, 1) := by decide +kernel
theorem dX11_lay_37 : decode cX11_lay 37 = .ok (.iaload, 1) := by decide +kernel
theorem dX11_lay_38 : decode cX11_lay 38 = .ok (.iconst 1, 1) := by decide +kernel
theorem dX11_lay_39 : decode cX11_lay 39 = .ok (.isub, 1) := by decide +kernel
theorem dX11_lay_40 : decode cX11_lay 40 = .ok (.i2l, 1) := by decide +kernel
theorem dX11_lay_41 : decode cX11_lay 41 = .ok (.invokestatic 76, 3) := by decide +kernel
theorem dX11_lay_44 : decode cX11_lay 44 = .ok (.ifCond .ne 9, 3) := by decide +kernel
theorem dX11_lay_47 : decode cX11_lay 47 = .ok (.aload_n 0, 1) := by decide +kernel
theorem dX11_lay_48 : decode cX11_lay 48 = .ok (.iconst 2, 1) := by decide +kernel
theorem dX11_lay_49 : decode cX11_lay 49 = .ok (.invokevirtual 80, 3) := by decide +kernel
theorem dX11_lay_52 : decode cX11_lay 52 = .ok (.ireturn, 1) := by decide +kernel
theorem dX11_lay_53 : decode cX11_lay 53 = .ok (.aload_n 0, 1) := by decide +kernel
theorem dX11_lay_54 : decode cX11_lay 54 = .ok (.getfield 13, 3) := by decide +kernel
theorem dX11_lay_57 : decode cX11_lay 57 = .ok (.bipush 40, 2) := by decide +kernel
theorem dX11_lay_59 : decode cX11_lay 59 = .ok (.iload_n 1, 1) := by decide +kernel
theorem dX11_lay_60 : decode cX11_lay 60 = .ok (.imul, 1) := by decide +kernel
theorem dX11_lay_61 : decode cX11_lay 61 = .ok (.iload_n 2, 1) := by decide +kernel
theorem dX11_lay_62 : decode cX11_lay 62 = .ok (.iadd, 1) := by decide +kernel
theorem dX11_lay_63 : decode cX11_lay 63 = .ok (.iaload, 1) := by decide +kernel
theorem dX11_lay_64 : decode cX11_lay 64 = .ok (.istore 4, 2) := by decide +kernel
theorem dX11_lay_66 : decode cX11_lay 66 = .ok (.aload_n 0, 1) := by decide +kernel
theorem dX11_lay_67 : decode cX11_lay 67 = .ok (.getfield 13, 3) := by decide +kernel
theorem dX11_lay_70 : decode cX11_lay 70 = .ok (.bipush 40, 2) := by decide +kernel
theorem dX11_lay_72 : decode cX11_lay 72 = .ok (.iload_n 1, 1) := by decide +kernel
theorem dX11_lay_73 : decode cX11_lay 73 = .ok (.imul, 1) := by decide +kernel
theorem dX11_lay_74 : decode cX11_lay 74 = .ok (.iload_n 2, 1) := by decide +kernel
theorem dX11_lay_75 : decode cX11_lay 75 = .ok (.iadd, 1) := by decide +kernel
theorem dX11_lay_76 : decode cX11_lay 76 = .ok (.iload_n 3, 1) := by decide +kernel
theorem dX11_lay_77 : decode cX11_lay 77 = .ok (.iastore, 1) := by decide +kernel
theorem dX11_lay_78 : decode cX11_lay 78 = .ok (.aload_n 0, 1) := by decide +kernel
theorem dX11_lay_79 : decode cX11_lay 79 = .ok (.iload 4, 2) := by decide +kernel
theorem dX11_lay_81 : decode cX11_lay 81 = .ok (.iconst 1, 1) := by decide +kernel
theorem dX11_lay_82 : decode cX11_lay 82 = .ok (.invokevirtual 84, 3) := by decide +kernel
theorem dX11_lay_85 : decode cX11_lay 85 = .ok (.ireturn, 1) := by decide +kernel
theorem dX11_at_0 : decode cX11_at 0 = .ok (.iload_n 1, 1) := by decide +kernel
theorem dX11_at_1 : decode cX11_at 1 = .ok (.i2l, 1) := by decide +kernel
theorem dX11_at_2 : decode cX11_at 2 = .ok (.lconst 0, 1) := by decide +kernel
theorem dX11_at_3 : decode cX11_at 3 = .ok (.ldc2_w 74, 3) := by decide +kernel
theorem dX11_at_6 : decode cX11_at 6 = .ok (.invokestatic 76, 3) := by decide +kernel
theorem dX11_at_9 : decode cX11_at 9 = .ok (.ifCond .ne 5, 3) := by decide +kernel
theorem dX11_at_12 : decode cX11_at 12 = .ok (.iconst (-1), 1) := by decide +kernel
theorem dX11_at_13 : decode cX11_at 13 = .ok (.ireturn, 1) := by decide +kernel
theorem dX11_at_14 : decode cX11_at 14 = .ok (.aload_n 0, 1) := by decide +kernel
theorem dX11_at_15 : decode cX11_at 15 = .ok (.getfield 7, 3) := by decide +kernel
theorem dX11_at_18 : decode cX11_at 18 = .ok (.iload_n 1, 1) := by decide +kernel
theorem dX11_at_19 : decode cX11_at 19 = .ok (.iaload, 1) := by decide +kernel
theorem dX11_at_20 : decode cX11_at 20 = .ok (.ifCond .ge 9, 3) := by decide +kernel
theorem dX11_at_23 : decode cX11_at 23 = .ok (.aload_n 0, 1) := by decide +kernel
theorem dX11_at_24 : decode cX11_at 24 = .ok (.iconst 1, 1) := by decide +kernel
theorem dX11_at_25 : decode cX11_at 25 = .ok (.invokevirtual 80, 3) := by decide +kernel
theorem dX11_at_28 : decode cX11_at 28 = .ok (.ireturn, 1) := by decide +kernel
theorem dX11_at_29 : decode cX11_at 29 = .ok (.iload_n 2, 1) := by decide +kernel
theorem dX11_at_30 : decode cX11_at 30 = .ok (.i2l, 1) := by decide +kernel
theorem dX11_at_31 : decode cX11_at 31 = .ok (.lconst 0, 1) := by decide +kernel
theorem dX11_at_32 : decode cX11_at 32 = .ok (.aload_n 0, 1) := by decide +kernel
theorem dX11_at_33 : decode cX11_at 33 = .ok (.getfield 7, 3) := by decide +kernel
theorem dX11_at_36 : decode cX11_at 36 = .ok (.iload_n 1, 1) := by decide +kernel
theorem dX11_at_37 : decode cX11_at 37 = .ok (.iaload, 1) := by decide +kernel
theorem dX11_at_38 : decode cX11_at 38 = .ok (.iconst 1, 1) := by decide +kernel
theorem dX11_at_39 : decode cX11_at 39 = .ok (.isub, 1) := by decide +kernel
theorem dX11_at_40 : decode cX11_at 40 = .ok (.i2l, 1) := by decide +kernel
theorem dX11_at_41 : decode cX11_at 41 = .ok (.invokestatic 76, 3) := by decide +kernel
theorem dX11_at_44 : decode cX11_at 44 = .ok (.ifCond .eq 22, 3) := by decide +kernel
theorem dX11_at_47 : decode cX11_at 47 = .ok (.aload_n 0, 1) := by decide +kernel
theorem dX11_at_48 : decode cX11_at 48 = .ok (.aload_n 0, 1) := by decide +kernel
theorem dX11_at_49 : decode cX11_at 49 = .ok (.getfield 13, 3) := by decide +kernel
theorem dX11_at_52 : decode cX11_at 52 = .ok (.bipush 40, 2) := by decide +kernel
theorem dX11_at_54 : decode cX11_at 54 = .ok (.iload_n 1, 1) := by decide +kernel
theorem dX11_at_55 : decode cX11_at 55 = .ok (.imul, 1) := by decide +kernel
theorem dX11_at_56 : decode cX11_at 56 = .ok (.iload_n 2, 1) := by decide +kernel
theorem dX11_at_57 : decode cX11_at 57 = .ok (.iadd, 1) := by decide +kernel
theorem dX11_at_58 : decode cX11_at 58 = .ok (.iaload, 1) := by decide +kernel
theorem dX11_at_59 : decode cX11_at 59 = .ok (.iconst 1, 1) := by decide +kernel
theorem dX11_at_60 : decode cX11_at 60 = .ok (.invokevirtual 84, 3) := by decide +kernel
theorem dX11_at_63 : decode cX11_at 63 = .ok (.goto 8, 3) := by decide +kernel
theorem dX11_at_66 : decode cX11_at 66 = .ok (.aload_n 0, 1) := by decide +kernel
theorem dX11_at_67 : decode cX11_at 67 = .ok (.iconst 2, 1) := by decide +kernel
theorem dX11_at_68 : decode cX11_at 68 = .ok (.invokevirtual 80, 3) := by decide +kernel
theorem dX11_at_71 : decode cX11_at 71 = .ok (.ireturn, 1) := by decide +kernel
theorem dX11_tear_0 : decode cX11_tear 0 = .ok (.iload_n 1, 1) := by decide +kernel
theorem dX11_tear_1 : decode cX11_tear 1 = .ok (.i2l, 1) := by decide +kernel
theorem dX11_tear_2 : decode cX11_tear 2 = .ok (.lconst 0, 1) := by decide +kernel
theorem dX11_tear_3 : decode cX11_tear 3 = .ok (.ldc2_w 74, 3) := by decide +kernel
theorem dX11_tear_6 : decode cX11_tear 6 = .ok (.invokestatic 76, 3) := by decide +kernel
theorem dX11_tear_9 : decode cX11_tear 9 = .ok (.ifCond .ne 5, 3) := by decide +kernel
theorem dX11_tear_12 : decode cX11_tear 12 = .ok (.iconst (-1), 1) := by decide +kernel
theorem dX11_tear_13 : decode cX11_tear 13 = .ok (.ireturn, 1) := by decide +kernel
theorem dX11_tear_14 : decode cX11_tear 14 = .ok (.aload_n 0, 1) := by decide +kernel
theorem dX11_tear_15 : decode cX11_tear 15 = .ok (.getfield 7, 3) := by decide +kernel
theorem dX11_tear_18 : decode cX11_tear 18 = .ok (.iload_n 1, 1) := by decide +kernel
theorem dX11_tear_19 : decode cX11_tear 19 = .ok (.iaload, 1) := by decide +kernel
theorem dX11_tear_20 : decode cX11_tear 20 = .ok (.ifCond .ge 9, 3) := by decide +kernel
theorem dX11_tear_23 : decode cX11_tear 23 = .ok (.aload_n 0, 1) := by decide +kernel
theorem dX11_tear_24 : decode cX11_tear 24 = .ok (.iconst 1, 1) := by decide +kernel
theorem dX11_tear_25 : decode cX11_tear 25 = .ok (.invokevirtual 80, 3) := by decide +kernel
theorem dX11_tear_28 : decode cX11_tear 28 = .ok (.ireturn, 1) := by decide +kernel
theorem dX11_tear_29 : decode cX11_tear 29 = .ok (.aload_n 0, 1) := by decide +kernel
theorem dX11_tear_30 : decode cX11_tear 30 = .ok (.getfield 7, 3) := by decide +kernel
theorem dX11_tear_33 : decode cX11_tear 33 = .ok (.iload_n 1, 1) := by decide +kernel
theorem dX11_tear_34 : decode cX11_tear 34 = .ok (.iconst (-1), 1) := by decide +kernel
theorem dX11_tear_35 : decode cX11_tear 35 = .ok (.iastore, 1) := by decide +kernel
theorem dX11_tear_36 : decode cX11_tear 36 = .ok (.iconst 1, 1) := by decide +kernel
theorem dX11_tear_37 : decode cX11_tear 37 = .ok (.ireturn, 1) := by decide +kernel
theorem dX11_copy_0 : decode cX11_copy 0 = .ok (.iload_n 1, 1) := by decide +kernel
theorem dX11_copy_1 : decode cX11_copy 1 = .ok (.i2l, 1) := by decide +kernel
theorem dX11_copy_2 : decode cX11_copy 2 = .ok (.lconst 0, 1) := by decide +kernel
theorem dX11_copy_3 : decode cX11_copy 3 = .ok (.ldc2_w 74, 3) := by decide +kernel
theorem dX11_copy_6 : decode cX11_copy 6 = .ok (.invokestatic 76, 3) := by decide +kernel
theorem dX11_copy_9 : decode cX11_copy 9 = .ok (.ifCond .eq 15, 3) := by decide +kernel
theorem dX11_copy_12 : decode cX11_copy 12 = .ok (.iload_n 3, 1) := by decide +kernel
theorem dX11_copy_13 : decode cX11_copy 13 = .ok (.i2l, 1) := by decide +kernel
theorem dX11_copy_14 : decode cX11_copy 14 = .ok (.lconst 0, 1) := by decide +kernel
theorem dX11_copy_15 : decode cX11_copy 15 = .ok (.ldc2_w 74, 3) := by decide +kernel
theorem dX11_copy_18 : decode cX11_copy 18 = .ok (.invokestatic 76, 3) := by decide +kernel
theorem dX11_copy_21 : decode cX11_copy 21 = .ok (.ifCond .ne 5, 3) := by decide +kernel
theorem dX11_copy_24 : decode cX11_copy 24 = .ok (.iconst (-1), 1) := by decide +kernel
theorem dX11_copy_25 : decode cX11_copy 25 = .ok (.ireturn, 1) := by decide +kernel
theorem dX11_copy_26 : decode cX11_copy 26 = .ok (.iload 5, 2) := by decide +kernel
theorem dX11_copy_28 : decode cX11_copy 28 = .ok (.ifCond .ge 9, 3) := by decide +kernel
theorem dX11_copy_31 : decode cX11_copy 31 = .ok (.aload_n 0, 1) := by decide +kernel
theorem dX11_copy_32 : decode cX11_copy 32 = .ok (.iconst 5, 1) := by decide +kernel
theorem dX11_copy_33 : decode cX11_copy 33 = .ok (.invokevirtual 80, 3) := by decide +kernel
theorem dX11_copy_36 : decode cX11_copy 36 = .ok (.ireturn, 1) := by decide +kernel
theorem dX11_copy_37 : decode cX11_copy 37 = .ok (.aload_n 0, 1) := by decide +kernel
theorem dX11_copy_38 : decode cX11_copy 38 = .ok (.getfield 7, 3) := by decide +kernel
theorem dX11_copy_41 : decode cX11_copy 41 = .ok (.iload_n 1, 1) := by decide +kernel
theorem dX11_copy_42 : decode cX11_copy 42 = .ok (.iaload, 1) := by decide +kernel
theorem dX11_copy_43 : decode cX11_copy 43 = .ok (.ifCond .lt 12, 3) := by decide +kernel
theorem dX11_copy_46 : decode cX11_copy 46 = .ok (.aload_n 0, 1) := by decide +kernel
theorem dX11_copy_47 : decode cX11_copy 47 = .ok (.getfield 7, 3) := by decide +kernel
theorem dX11_copy_50 : decode cX11_copy 50 = .ok (.iload_n 3, 1) := by decide +kernel
theorem dX11_copy_51 : decode cX11_copy 51 = .ok (.iaload, 1) := by decide +kernel
theorem dX11_copy_52 : decode cX11_copy 52 = .ok (.ifCond .ge 9, 3) := by decide +kernel
theorem dX11_copy_55 : decode cX11_copy 55 = .ok (.aload_n 0, 1) := by decide +kernel
theorem dX11_copy_56 : decode cX11_copy 56 = .ok (.iconst 1, 1) := by decide +kernel
theorem dX11_copy_57 : decode cX11_copy 57 = .ok (.invokevirtual 80, 3) := by decide +kernel
theorem dX11_copy_60 : decode cX11_copy 60 = .ok (.ireturn, 1) := by decide +kernel
theorem dX11_copy_61 : decode cX11_copy 61 = .ok (.iload_n 2, 1) := by decide +kernel
theorem dX11_copy_62 : decode cX11_copy 62 = .ok (.ifCond .lt 43, 3) := by decide +kernel
theorem dX11_copy_65 : decode cX11_copy 65 = .ok (.iload 4, 2) := by decide +kernel
theorem dX11_copy_67 : decode cX11_copy 67 = .ok (.ifCond .lt 38, 3) := by decide +kernel
theorem dX11_copy_70 : decode cX11_copy 70 = .ok (.iload_n 2, 1) := by decide +kernel
theorem dX11_copy_71 : decode cX11_copy 71 = .ok (.i2l, 1) := by decide +kernel
theorem dX11_copy_72 : decode cX11_copy 72 = .ok (.iload 5, 2) := by decide +kernel
theorem dX11_copy_74 : decode cX11_copy 74 = .ok (.i2l, 1) := by decide +kernel
theorem dX11_copy_75 : decode cX11_copy 75 = .ok (.ladd, 1) := by decide +kernel
theorem dX11_copy_76 : decode cX11_copy 76 = .ok (.aload_n 0, 1) := by decide +kernel
theorem dX11_copy_77 : decode cX11_copy 77 = .ok (.getfield 7, 3) := by decide +kernel
theorem dX11_copy_80 : decode cX11_copy 80 = .ok (.iload_n 1, 1) := by decide +kernel
theorem dX11_copy_81 : decode cX11_copy 81 = .ok (.iaload, 1) := by decide +kernel
theorem dX11_copy_82 : decode cX11_copy 82 = .ok (.i2l, 1) := by decide +kernel
theorem dX11_copy_83 : decode cX11_copy 83 = .ok (.lcmp, 1) := by decide +kernel
theorem dX11_copy_84 : decode cX11_copy 84 = .ok (.ifCond .gt 21, 3) := by decide +kernel
theorem dX11_copy_87 : decode cX11_copy 87 = .ok (.iload 4, 2) := by decide +kernel
theorem dX11_copy_89 : decode cX11_copy 89 = .ok (.i2l, 1) := by decide +kernel
theorem dX11_copy_90 : decode cX11_copy 90 = .ok (.iload 5, 2) := by decide +kernel
theorem dX11_copy_92 : decode cX11_copy 92 = .ok (.i2l, 1) := by decide +kernel
theorem dX11_copy_93 : decode cX11_copy 93 = .ok (.ladd, 1) := by decide +kernel
theorem dX11_copy_94 : decode cX11_copy 94 = .ok (.aload_n 0, 1) := by decide +kernel
theorem dX11_copy_95 : decode cX11_copy 95 = .ok (.getfield 7, 3) := by decide +kernel
theorem dX11_copy_98 : decode cX11_copy 98 = .ok (.iload_n 3, 1) := by decide +kernel
theorem dX11_copy_99 : decode cX11_copy 99 = .ok (.iaload, 1) := by decide +kernel
theorem dX11_copy_100 : decode cX11_copy 100 = .ok (.i2l, 1) := by decide +kernel
theorem dX11_copy_101 : decode cX11_copy 101 = .ok (.lcmp, 1) := by decide +kernel
theorem dX11_copy_102 : decode cX11_copy 102 = .ok (.ifCond .le 9, 3) := by decide +kernel
theorem dX11_copy_105 : decode cX11_copy 105 = .ok (.aload_n 0, 1) := by decide +kernel
theorem dX11_copy_106 : decode cX11_copy 106 = .ok (.iconst 2, 1) := by decide +kernel
theorem dX11_copy_107 : decode cX11_copy 107 = .ok (.invokevirtual 80, 3) := by decide +kernel
theorem dX11_copy_110 : decode cX11_copy 110 = .ok (.ireturn, 1) := by decide +kernel
theorem dX11_copy_111 : decode cX11_copy 111 = .ok (.iconst 0, 1) := by decide +kernel
theorem dX11_copy_112 : decode cX11_copy 112 = .ok (.istore 6, 2) := by decide +kernel
theorem dX11_copy_114 : decode cX11_copy 114 = .ok (.iload 6, 2) := by decide +kernel
theorem dX11_copy_116 : decode cX11_copy 116 = .ok (.iload 5, 2) := by decide +kernel
theorem dX11_copy_118 : decode cX11_copy 118 = .ok (.if_icmp .ge 30, 3) := by decide +kernel
theorem dX11_copy_121 : decode cX11_copy 121 = .ok (.aload_n 0, 1) := by decide +kernel
theorem dX11_copy_122 : decode cX11_copy 122 = .ok (.getfield 23, 3) := by decide +kernel
theorem dX11_copy_125 : decode cX11_copy 125 = .ok (.iload 6, 2) := by decide +kernel
theorem dX11_copy_127 : decode cX11_copy 127 = .ok (.aload_n 0, 1) := by decide +kernel
theorem dX11_copy_128 : decode cX11_copy 128 = .ok (.getfield 13, 3) := by decide +kernel
theorem dX11_copy_131 : decode cX11_copy 131 = .ok (.bipush 40, 2) := by decide +kernel
theorem dX11_copy_133 : decode cX11_copy 133 = .ok (.iload_n 1, 1) := by decide +kernel
theorem dX11_copy_134 : decode cX11_copy 134 = .ok (.imul, 1) := by decide +kernel
theorem dX11_copy_135 : decode cX11_copy 135 = .ok (.iload_n 2, 1) := by decide +kernel
theorem dX11_copy_136 : decode cX11_copy 136 = .ok (.iadd, 1) := by decide +kernel
theorem dX11_copy_137 : decode cX11_copy 137 = .ok (.iload 6, 2) := by decide +kernel
theorem dX11_copy_139 : decode cX11_copy 139 = .ok (.iadd, 1) := by decide +kernel
theorem dX11_copy_140 : decode cX11_copy 140 = .ok (.iaload, 1) := by decide +kernel
theorem dX11_copy_141 : decode cX11_copy 141 = .ok (.iastore, 1) := by decide +kernel
theorem dX11_copy_142 : decode cX11_copy 142 = .ok (.iinc 6 1, 3) := by decide +kernel
theorem dX11_copy_145 : decode cX11_copy 145 = .ok (.goto (-31), 3) := by decide +kernel
theorem dX11_copy_148 : decode cX11_copy 148 = .ok (.iconst 0, 1) := by decide +kernel
theorem dX11_copy_149 : decode cX11_copy 149 = .ok (.istore 6, 2) := by decide +kernel
theorem dX11_copy_151 : decode cX11_copy 151 = .ok (.iload 6, 2) := by decide +kernel
theorem dX11_copy_153 : decode cX11_copy 153 = .ok (.iload 5, 2) := by decide +kernel
theorem dX11_copy_155 : decode cX11_copy 155 = .ok (.if_icmp .ge 31, 3) := by decide +kernel
theorem dX11_copy_158 : decode cX11_copy 158 = .ok (.aload_n 0, 1) := by decide +kernel
theorem dX11_copy_159 : decode cX11_copy 159 = .ok (.getfield 13, 3) := by decide +kernel
theorem dX11_copy_162 : decode cX11_copy 162 = .ok (.bipush 40, 2) := by decide +kernel
theorem dX11_copy_164 : decode cX11_copy 164 = .ok (.iload_n 3, 1) := by decide +kernel
theorem dX11_copy_165 : decode cX11_copy 165 = .ok (.imul, 1) := by decide +kernel
theorem dX11_copy_166 : decode cX11_copy 166 = .ok (.iload 4, 2) := by decide +kernel
theorem dX11_copy_168 : decode cX11_copy 168 = .ok (.iadd, 1) := by decide +kernel
theorem dX11_copy_169 : decode cX11_copy 169 = .ok (.iload 6, 2) := by decide +kernel
theorem dX11_copy_171 : decode cX11_copy 171 = .ok (.iadd, 1) := by decide +kernel
theorem dX11_copy_172 : decode cX11_copy 172 = .ok (.aload_n 0, 1) := by decide +kernel
theorem dX11_copy_173 : decode cX11_copy 173 = .ok (.getfield 23, 3) := by decide +kernel
theorem dX11_copy_176 : decode cX11_copy 176 = .ok (.iload 6, 2) := by decide +kernel
theorem dX11_copy_178 : decode cX11_copy 178 = .ok (.iaload, 1) := by decide +kernel
theorem dX11_copy_179 : decode cX11_copy 179 = .ok (.iastore, 1) := by decide +kernel
theorem dX11_copy_180 : decode cX11_copy 180 = .ok (.iinc 6 1, 3) := by decide +kernel
theorem dX11_copy_183 : decode cX11_copy 183 = .ok (.goto (-32), 3) := by decide +kernel
theorem dX11_copy_186 : decode cX11_copy 186 = .ok (.iconst 1, 1) := by decide +kernel
theorem dX11_copy_187 : decode cX11_copy 187 = .ok (.ireturn, 1) := by decide +kernel
theorem dX11_mean_0 : decode cX11_mean 0 = .ok (.iload_n 1, 1) := by decide +kernel
theorem dX11_mean_1 : decode cX11_mean 1 = .ok (.i2l, 1) := by decide +kernel
theorem dX11_mean_2 : decode cX11_mean 2 = .ok (.lconst 0, 1) := by decide +kernel
theorem dX11_mean_3 : decode cX11_mean 3 = .ok (.ldc2_w 74, 3) := by decide +kernel
theorem dX11_mean_6 : decode cX11_mean 6 = .ok (.invokestatic 76, 3) := by decide +kernel
theorem dX11_mean_9 : decode cX11_mean 9 = .ok (.ifCond .ne 5, 3) := by decide +kernel
theorem dX11_mean_12 : decode cX11_mean 12 = .ok (.iconst (-1), 1) := by decide +kernel
theorem dX11_mean_13 : decode cX11_mean 13 = .ok (.ireturn, 1) := by decide +kernel
theorem dX11_mean_14 : decode cX11_mean 14 = .ok (.aload_n 0, 1) := by decide +kernel
theorem dX11_mean_15 : decode cX11_mean 15 = .ok (.getfield 7, 3) := by decide +kernel
theorem dX11_mean_18 : decode cX11_mean 18 = .ok (.iload_n 1, 1) := by decide +kernel
theorem dX11_mean_19 : decode cX11_mean 19 = .ok (.iaload, 1) := by decide +kernel
theorem dX11_mean_20 : decode cX11_mean 20 = .ok (.iconst 1, 1) := by decide +kernel
theorem dX11_mean_21 : decode cX11_mean 21 = .ok (.if_icmp .ge 22, 3) := by decide +kernel
theorem dX11_mean_24 : decode cX11_mean 24 = .ok (.aload_n 0, 1) := by decide +kernel
theorem dX11_mean_25 : decode cX11_mean 25 = .ok (.aload_n 0, 1) := by decide +kernel
theorem dX11_mean_26 : decode cX11_mean 26 = .ok (.getfield 7, 3) := by decide +kernel
theorem dX11_mean_29 : decode cX11_mean 29 = .ok (.iload_n 1, 1) := by decide +kernel
theorem dX11_mean_30 : decode cX11_mean 30 = .ok (.iaload, 1) := by decide +kernel
theorem dX11_mean_31 : decode cX11_mean 31 = .ok (.ifCond .ge 7, 3) := by decide +kernel
theorem dX11_mean_34 : decode cX11_mean 34 = .ok (.iconst 1, 1) := by decide +kernel
theorem dX11_mean_35 : decode cX11_mean 35 = .ok (.goto 4, 3) := by decide +kernel
theorem dX11_mean_38 : decode cX11_mean 38 = .ok (.iconst 4, 1) := by decide +kernel
theorem dX11_mean_39 : decode cX11_mean 39 = .ok (.invokevirtual 80, 3) := by decide +kernel
theorem dX11_mean_42 : decode cX11_mean 42 = .ok (.ireturn, 1) := by decide +kernel
theorem dX11_mean_43 : decode cX11_mean 43 = .ok (.lconst 0, 1) := by decide +kernel
theorem dX11_mean_44 : decode cX11_mean 44 = .ok (.lstore_n 2, 1) := by decide +kernel
theorem dX11_mean_45 : decode cX11_mean 45 = .ok (.iconst 0, 1) := by decide +kernel
theorem dX11_mean_46 : decode cX11_mean 46 = .ok (.istore 4, 2) := by decide +kernel
theorem dX11_mean_48 : decode cX11_mean 48 = .ok (.iload 4, 2) := by decide +kernel
theorem dX11_mean_50 : decode cX11_mean 50 = .ok (.aload_n 0, 1) := by decide +kernel
theorem dX11_mean_51 : decode cX11_mean 51 = .ok (.getfield 7, 3) := by decide +kernel
theorem dX11_mean_54 : decode cX11_mean 54 = .ok (.iload_n 1, 1) := by decide +kernel
theorem dX11_mean_55 : decode cX11_mean 55 = .ok (.iaload, 1) := by decide +kernel
theorem dX11_mean_56 : decode cX11_mean 56 = .ok (.if_icmp .ge 25, 3) := by decide +kernel
theorem dX11_mean_59 : decode cX11_mean 59 = .ok (.lload_n 2, 1) := by decide +kernel
theorem dX11_mean_60 : decode cX11_mean 60 = .ok (.aload_n 0, 1) := by decide +kernel
theorem dX11_mean_61 : decode cX11_mean 61 = .ok (.getfield 13, 3) := by decide +kernel
theorem dX11_mean_64 : decode cX11_mean 64 = .ok (.bipush 40, 2) := by decide +kernel
theorem dX11_mean_66 : decode cX11_mean 66 = .ok (.iload_n 1, 1) := by decide +kernel
theorem dX11_mean_67 : decode cX11_mean 67 = .ok (.imul, 1) := by decide +kernel
theorem dX11_mean_68 : decode cX11_mean 68 = .ok (.iload 4, 2) := by decide +kernel
theorem dX11_mean_70 : decode cX11_mean 70 = .ok (.iadd, 1) := by decide +kernel
theorem dX11_mean_71 : decode cX11_mean 71 = .ok (.iaload, 1) := by decide +kernel
theorem dX11_mean_72 : decode cX11_mean 72 = .ok (.i2l, 1) := by decide +kernel
theorem dX11_mean_73 : decode cX11_mean 73 = .ok (.ladd, 1) := by decide +kernel
theorem dX11_mean_74 : decode cX11_mean 74 = .ok (.lstore_n 2, 1) := by decide +kernel
theorem dX11_mean_75 : decode cX11_mean 75 = .ok (.iinc 4 1, 3) := by decide +kernel
theorem dX11_mean_78 : decode cX11_mean 78 = .ok (.goto (-30), 3) := by decide +kernel
theorem dX11_mean_81 : decode cX11_mean 81 = .ok (.aload_n 0, 1) := by decide +kernel
theorem dX11_mean_82 : decode cX11_mean 82 = .ok (.lload_n 2, 1) := by decide +kernel
theorem dX11_mean_83 : decode cX11_mean 83 = .ok (.aload_n 0, 1) := by decide +kernel
theorem dX11_mean_84 : decode cX11_mean 84 = .ok (.getfield 7, 3) := by decide +kernel
theorem dX11_mean_87 : decode cX11_mean 87 = .ok (.iload_n 1, 1) := by decide +kernel
theorem dX11_mean_88 : decode cX11_mean 88 = .ok (.iaload, 1) := by decide +kernel
theorem dX11_mean_89 : decode cX11_mean 89 = .ok (.i2l, 1) := by decide +kernel
theorem dX11_mean_90 : decode cX11_mean 90 = .ok (.ldiv, 1) := by decide +kernel
theorem dX11_mean_91 : decode cX11_mean 91 = .ok (.l2i, 1) := by decide +kernel
theorem dX11_mean_92 : decode cX11_mean 92 = .ok (.iconst 1, 1) := by decide +kernel
theorem dX11_mean_93 : decode cX11_mean 93 = .ok (.invokevirtual 84, 3) := by decide +kernel
theorem dX11_mean_96 : decode cX11_mean 96 = .ok (.ireturn, 1) := by decide +kernel
theorem dX11_text_0 : decode cX11_text 0 = .ok (.iload_n 1, 1) := by decide +kernel
theorem dX11_text_1 : decode cX11_text 1 = .ok (.i2l, 1) := by decide +kernel
theorem dX11_text_2 : decode cX11_text 2 = .ok (.lconst 0, 1) := by decide +kernel
theorem dX11_text_3 : decode cX11_text 3 = .ok (.ldc2_w 88, 3) := by decide +kernel
theorem dX11_text_6 : decode cX11_text 6 = .ok (.invokestatic 76, 3) := by decide +kernel
theorem dX11_text_9 : decode cX11_text 9 = .ok (.ifCond .eq 9, 3) := by decide +kernel
theorem dX11_text_12 : decode cX11_text 12 = .ok (.iload_n 2, 1) := by decide +kernel
theorem dX11_text_13 : decode cX11_text 13 = .ok (.bipush 80, 2) := by decide +kernel
theorem dX11_text_15 : decode cX11_text 15 = .ok (.if_icmp .le 5, 3) := by decide +kernel
theorem dX11_text_18 : decode cX11_text 18 = .ok (.iconst (-1), 1) := by decide +kernel
theorem dX11_text_19 : decode cX11_text 19 = .ok (.ireturn, 1) := by decide +kernel
theorem dX11_text_20 : decode cX11_text 20 = .ok (.iload_n 2, 1) := by decide +kernel
theorem dX11_text_21 : decode cX11_text 21 = .ok (.ifCond .ge 9, 3) := by decide +kernel
theorem dX11_text_24 : decode cX11_text 24 = .ok (.aload_n 0, 1) := by decide +kernel
theorem dX11_text_25 : decode cX11_text 25 = .ok (.iconst 5, 1) := by decide +kernel
theorem dX11_text_26 : decode cX11_text 26 = .ok (.invokevirtual 80, 3) := by decide +kernel
theorem dX11_text_29 : decode cX11_text 29 = .ok (.ireturn, 1) := by decide +kernel
theorem dX11_text_30 : decode cX11_text 30 = .ok (.aload_n 0, 1) := by decide +kernel
theorem dX11_text_31 : decode cX11_text 31 = .ok (.getfield 16, 3) := by decide +kernel
theorem dX11_text_34 : decode cX11_text 34 = .ok (.iload_n 1, 1) := by decide +kernel
theorem dX11_text_35 : decode cX11_text 35 = .ok (.iload_n 2, 1) := by decide +kernel
theorem dX11_text_36 : decode cX11_text 36 = .ok (.iastore, 1) := by decide +kernel
theorem dX11_text_37 : decode cX11_text 37 = .ok (.iconst 0, 1) := by decide +kernel
theorem dX11_text_38 : decode cX11_text 38 = .ok (.istore_n 3, 1) := by decide +kernel
theorem dX11_text_39 : decode cX11_text 39 = .ok (.iload_n 3, 1) := by decide +kernel
theorem dX11_text_40 : decode cX11_text 40 = .ok (.iload_n 2, 1) := by decide +kernel
theorem dX11_text_41 : decode cX11_text 41 = .ok (.if_icmp .ge 22, 3) := by decide +kernel
theorem dX11_text_44 : decode cX11_text 44 = .ok (.aload_n 0, 1) := by decide +kernel
theorem dX11_text_45 : decode cX11_text 45 = .ok (.getfield 19, 3) := by decide +kernel
theorem dX11_text_48 : decode cX11_text 48 = .ok (.bipush 80, 2) := by decide +kernel
theorem dX11_text_50 : decode cX11_text 50 = .ok (.iload_n 1, 1) := by decide +kernel
theorem dX11_text_51 : decode cX11_text 51 = .ok (.imul, 1) := by decide +kernel
theorem dX11_text_52 : decode cX11_text 52 = .ok (.iload_n 3, 1) := by decide +kernel
theorem dX11_text_53 : decode cX11_text 53 = .ok (.iadd, 1) := by decide +kernel
theorem dX11_text_54 : decode cX11_text 54 = .ok (.bipush 32, 2) := by decide +kernel
theorem dX11_text_56 : decode cX11_text 56 = .ok (.bastore, 1) := by decide +kernel
theorem dX11_text_57 : decode cX11_text 57 = .ok (.iinc 3 1, 3) := by decide +kernel
theorem dX11_text_60 : decode cX11_text 60 = .ok (.goto (-21), 3) := by decide +kernel
theorem dX11_text_63 : decode cX11_text 63 = .ok (.iload_n 2, 1) := by decide +kernel
theorem dX11_text_64 : decode cX11_text 64 = .ok (.ireturn, 1) := by decide +kernel
theorem dX11_put_0 : decode cX11_put 0 = .ok (.iload_n 1, 1) := by decide +kernel
theorem dX11_put_1 : decode cX11_put 1 = .ok (.i2l, 1) := by decide +kernel
theorem dX11_put_2 : decode cX11_put 2 = .ok (.lconst 0, 1) := by decide +kernel
theorem dX11_put_3 : decode cX11_put 3 = .ok (.ldc2_w 88, 3) := by decide +kernel
theorem dX11_put_6 : decode cX11_put 6 = .ok (.invokestatic 76, 3) := by decide +kernel
theorem dX11_put_9 : decode cX11_put 9 = .ok (.ifCond .ne 5, 3) := by decide +kernel
theorem dX11_put_12 : decode cX11_put 12 = .ok (.iconst (-1), 1) := by decide +kernel
theorem dX11_put_13 : decode cX11_put 13 = .ok (.ireturn, 1) := by decide +kernel
theorem dX11_put_14 : decode cX11_put 14 = .ok (.aload_n 0, 1) := by decide +kernel
theorem dX11_put_15 : decode cX11_put 15 = .ok (.getfield 16, 3) := by decide +kernel
theorem dX11_put_18 : decode cX11_put 18 = .ok (.iload_n 1, 1) := by decide +kernel
theorem dX11_put_19 : decode cX11_put 19 = .ok (.iaload, 1) := by decide +kernel
theorem dX11_put_20 : decode cX11_put 20 = .ok (.ifCond .ge 9, 3) := by decide +kernel
theorem dX11_put_23 : decode cX11_put 23 = .ok (.aload_n 0, 1) := by decide +kernel
theorem dX11_put_24 : decode cX11_put 24 = .ok (.iconst 1, 1) := by decide +kernel
theorem dX11_put_25 : decode cX11_put 25 = .ok (.invokevirtual 80, 3) := by decide +kernel
theorem dX11_put_28 : decode cX11_put 28 = .ok (.ireturn, 1) := by decide +kernel
theorem dX11_put_29 : decode cX11_put 29 = .ok (.iload_n 2, 1) := by decide +kernel
theorem dX11_put_30 : decode cX11_put 30 = .ok (.i2l, 1) := by decide +kernel
theorem dX11_put_31 : decode cX11_put 31 = .ok (.lconst 0, 1) := by decide +kernel
theorem dX11_put_32 : decode cX11_put 32 = .ok (.aload_n 0, 1) := by decide +kernel
theorem dX11_put_33 : decode cX11_put 33 = .ok (.getfield 16, 3) := by decide +kernel
theorem dX11_put_36 : decode cX11_put 36 = .ok (.iload_n 1, 1) := by decide +kernel
theorem dX11_put_37 : decode cX11_put 37 = .ok (.iaload, 1) := by decide +kernel
theorem dX11_put_38 : decode cX11_put 38 = .ok (.iconst 1, 1) := by decide +kernel
theorem dX11_put_39 : decode cX11_put 39 = .ok (.isub, 1) := by decide +kernel
theorem dX11_put_40 : decode cX11_put 40 = .ok (.i2l, 1) := by decide +kernel
theorem dX11_put_41 : decode cX11_put 41 = .ok (.invokestatic 76, 3) := by decide +kernel
theorem dX11_put_44 : decode cX11_put 44 = .ok (.ifCond .ne 9, 3) := by decide +kernel
theorem dX11_put_47 : decode cX11_put 47 = .ok (.aload_n 0, 1) := by decide +kernel
theorem dX11_put_48 : decode cX11_put 48 = .ok (.iconst 2, 1) := by decide +kernel
theorem dX11_put_49 : decode cX11_put 49 = .ok (.invokevirtual 80, 3) := by decide +kernel
theorem dX11_put_52 : decode cX11_put 52 = .ok (.ireturn, 1) := by decide +kernel
theorem dX11_put_53 : decode cX11_put 53 = .ok (.aload_n 0, 1) := by decide +kernel
theorem dX11_put_54 : decode cX11_put 54 = .ok (.getfield 19, 3) := by decide +kernel
theorem dX11_put_57 : decode cX11_put 57 = .ok (.bipush 80, 2) := by decide +kernel
theorem dX11_put_59 : decode cX11_put 59 = .ok (.iload_n 1, 1) := by decide +kernel
theorem dX11_put_60 : decode cX11_put 60 = .ok (.imul, 1) := by decide +kernel
theorem dX11_put_61 : decode cX11_put 61 = .ok (.iload_n 2, 1) := by decide +kernel
theorem dX11_put_62 : decode cX11_put 62 = .ok (.iadd, 1) := by decide +kernel
theorem dX11_put_63 : decode cX11_put 63 = .ok (.baload, 1) := by decide +kernel
theorem dX11_put_64 : decode cX11_put 64 = .ok (.istore 4, 2) := by decide +kernel
theorem dX11_put_66 : decode cX11_put 66 = .ok (.aload_n 0, 1) := by decide +kernel
theorem dX11_put_67 : decode cX11_put 67 = .ok (.getfield 19, 3) := by decide +kernel
theorem dX11_put_70 : decode cX11_put 70 = .ok (.bipush 80, 2) := by decide +kernel
theorem dX11_put_72 : decode cX11_put 72 = .ok (.iload_n 1, 1) := by decide +kernel
theorem dX11_put_73 : decode cX11_put 73 = .ok (.imul, 1) := by decide +kernel
theorem dX11_put_74 : decode cX11_put 74 = .ok (.iload_n 2, 1) := by decide +kernel
theorem dX11_put_75 : decode cX11_put 75 = .ok (.iadd, 1) := by decide +kernel
theorem dX11_put_76 : decode cX11_put 76 = .ok (.iload_n 3, 1) := by decide +kernel
theorem dX11_put_77 : decode cX11_put 77 = .ok (.i2b, 1) := by decide +kernel
theorem dX11_put_78 : decode cX11_put 78 = .ok (.bastore, 1) := by decide +kernel
theorem dX11_put_79 : decode cX11_put 79 = .ok (.iload 4, 2) := by decide +kernel
theorem dX11_put_81 : decode cX11_put 81 = .ok (.sipush 1000, 3) := by decide +kernel
theorem dX11_put_84 : decode cX11_put 84 = .ok (.iadd, 1) := by decide +kernel
theorem dX11_put_85 : decode cX11_put 85 = .ok (.ireturn, 1) := by decide +kernel
theorem dX11_byteAt_0 : decode cX11_byteAt 0 = .ok (.iload_n 2, 1) := by decide +kernel
theorem dX11_byteAt_1 : decode cX11_byteAt 1 = .ok (.aload_n 0, 1) := by decide +kernel
theorem dX11_byteAt_2 : decode cX11_byteAt 2 = .ok (.getfield 16, 3) := by decide +kernel
theorem dX11_byteAt_5 : decode cX11_byteAt 5 = .ok (.iload_n 1, 1) := by decide +kernel
theorem dX11_byteAt_6 : decode cX11_byteAt 6 = .ok (.iaload, 1) := by decide +kernel
theorem dX11_byteAt_7 : decode cX11_byteAt 7 = .ok (.if_icmp .ge 17, 3) := by decide +kernel
theorem dX11_byteAt_10 : decode cX11_byteAt 10 = .ok (.aload_n 0, 1) := by decide +kernel
theorem dX11_byteAt_11 : decode cX11_byteAt 11 = .ok (.getfield 19, 3) := by decide +kernel
theorem dX11_byteAt_14 : decode cX11_byteAt 14 = .ok (.bipush 80, 2) := by decide +kernel
theorem dX11_byteAt_16 : decode cX11_byteAt 16 = .ok (.iload_n 1, 1) := by decide +kernel
theorem dX11_byteAt_17 : decode cX11_byteAt 17 = .ok (.imul, 1) := by decide +kernel
theorem dX11_byteAt_18 : decode cX11_byteAt 18 = .ok (.iload_n 2, 1) := by decide +kernel
theorem dX11_byteAt_19 : decode cX11_byteAt 19 = .ok (.iadd, 1) := by decide +kernel
theorem dX11_byteAt_20 : decode cX11_byteAt 20 = .ok (.baload, 1) := by decide +kernel
theorem dX11_byteAt_21 : decode cX11_byteAt 21 = .ok (.goto 4, 3) := by decide +kernel
theorem dX11_byteAt_24 : decode cX11_byteAt 24 = .ok (.iconst (-1), 1) := by decide +kernel
theorem dX11_byteAt_25 : decode cX11_byteAt 25 = .ok (.ireturn, 1) := by decide +kernel
theorem dX11_blanks_0 : decode cX11_blanks 0 = .ok (.iload_n 2, 1) := by decide +kernel
theorem dX11_blanks_1 : decode cX11_blanks 1 = .ok (.istore_n 3, 1) := by decide +kernel
theorem dX11_blanks_2 : decode cX11_blanks 2 = .ok (.aload_n 0, 1) := by decide +kernel
theorem dX11_blanks_3 : decode cX11_blanks 3 = .ok (.iload_n 1, 1) := by decide +kernel
theorem dX11_blanks_4 : decode cX11_blanks 4 = .ok (.iload_n 3, 1) := by decide +kernel
theorem dX11_blanks_5 : decode cX11_blanks 5 = .ok (.invokevirtual 90, 3) := by decide +kernel
theorem dX11_blanks_8 : decode cX11_blanks 8 = .ok (.bipush 32, 2) := by decide +kernel
theorem dX11_blanks_10 : decode cX11_blanks 10 = .ok (.if_icmp .ne 9, 3) := by decide +kernel
theorem dX11_blanks_13 : decode cX11_blanks 13 = .ok (.iinc 3 1, 3) := by decide +kernel
theorem dX11_blanks_16 : decode cX11_blanks 16 = .ok (.goto (-14), 3) := by decide +kernel
theorem dX11_blanks_19 : decode cX11_blanks 19 = .ok (.iload_n 3, 1) := by decide +kernel
theorem dX11_blanks_20 : decode cX11_blanks 20 = .ok (.ireturn, 1) := by decide +kernel
theorem dX11_kindOf_0 : decode cX11_kindOf 0 = .ok (.iload_n 0, 1) := by decide +kernel
theorem dX11_kindOf_1 : decode cX11_kindOf 1 = .ok (.bipush 98, 2) := by decide +kernel
theorem dX11_kindOf_3 : decode cX11_kindOf 3 = .ok (.if_icmp .ne 7, 3) := by decide +kernel
theorem dX11_kindOf_6 : decode cX11_kindOf 6 = .ok (.iconst 0, 1) := by decide +kernel
theorem dX11_kindOf_7 : decode cX11_kindOf 7 = .ok (.goto 54, 3) := by decide +kernel
theorem dX11_kindOf_10 : decode cX11_kindOf 10 = .ok (.iload_n 0, 1) := by decide +kernel
theorem dX11_kindOf_11 : decode cX11_kindOf 11 = .ok (.bipush 117, 2) := by decide +kernel
theorem dX11_kindOf_13 : decode cX11_kindOf 13 = .ok (.if_icmp .ne 7, 3) := by decide +kernel
theorem dX11_kindOf_16 : decode cX11_kindOf 16 = .ok (.iconst 1, 1) := by decide +kernel
theorem dX11_kindOf_17 : decode cX11_kindOf 17 = .ok (.goto 44, 3) := by decide +kernel
theorem dX11_kindOf_20 : decode cX11_kindOf 20 = .ok (.iload_n 0, 1) := by decide +kernel
theorem dX11_kindOf_21 : decode cX11_kindOf 21 = .ok (.bipush 108, 2) := by decide +kernel
theorem dX11_kindOf_23 : decode cX11_kindOf 23 = .ok (.if_icmp .ne 7, 3) := by decide +kernel
theorem dX11_kindOf_26 : decode cX11_kindOf 26 = .ok (.iconst 2, 1) := by decide +kernel
theorem dX11_kindOf_27 : decode cX11_kindOf 27 = .ok (.goto 34, 3) := by decide +kernel
theorem dX11_kindOf_30 : decode cX11_kindOf 30 = .ok (.iload_n 0, 1) := by decide +kernel
theorem dX11_kindOf_31 : decode cX11_kindOf 31 = .ok (.bipush 103, 2) := by decide +kernel
theorem dX11_kindOf_33 : decode cX11_kindOf 33 = .ok (.if_icmp .ne 7, 3) := by decide +kernel
theorem dX11_kindOf_36 : decode cX11_kindOf 36 = .ok (.iconst 3, 1) := by decide +kernel
theorem dX11_kindOf_37 : decode cX11_kindOf 37 = .ok (.goto 24, 3) := by decide +kernel
theorem dX11_kindOf_40 : decode cX11_kindOf 40 = .ok (.iload_n 0, 1) := by decide +kernel
theorem dX11_kindOf_41 : decode cX11_kindOf 41 = .ok (.bipush 116, 2) := by decide +kernel
theorem dX11_kindOf_43 : decode cX11_kindOf 43 = .ok (.if_icmp .ne 7, 3) := by decide +kernel
theorem dX11_kindOf_46 : decode cX11_kindOf 46 = .ok (.iconst 4, 1) := by decide +kernel
theorem dX11_kindOf_47 : decode cX11_kindOf 47 = .ok (.goto 14, 3) := by decide +kernel
theorem dX11_kindOf_50 : decode cX11_kindOf 50 = .ok (.iload_n 0, 1) := by decide +kernel
theorem dX11_kindOf_51 : decode cX11_kindOf 51 = .ok (.bipush 99, 2) := by decide +kernel
theorem dX11_kindOf_53 : decode cX11_kindOf 53 = .ok (.if_icmp .ne 7, 3) := by decide +kernel
theorem dX11_kindOf_56 : decode cX11_kindOf 56 = .ok (.iconst 5, 1) := by decide +kernel
theorem dX11_kindOf_57 : decode cX11_kindOf 57 = .ok (.goto 4, 3) := by decide +kernel
theorem dX11_kindOf_60 : decode cX11_kindOf 60 = .ok (.iconst (-1), 1) := by decide +kernel
theorem dX11_kindOf_61 : decode cX11_kindOf 61 = .ok (.ireturn, 1) := by decide +kernel
theorem dX11_reads_0 : decode cX11_reads 0 = .ok (.aload_n 0, 1) := by decide +kernel
theorem dX11_reads_1 : decode cX11_reads 1 = .ok (.iconst 0, 1) := by decide +kernel
theorem dX11_reads_2 : decode cX11_reads 2 = .ok (.putfield 93, 3) := by decide +kernel
theorem dX11_reads_5 : decode cX11_reads 5 = .ok (.aload_n 0, 1) := by decide +kernel
theorem dX11_reads_6 : decode cX11_reads 6 = .ok (.iload_n 1, 1) := by decide +kernel
theorem dX11_reads_7 : decode cX11_reads 7 = .ok (.iconst 0, 1) := by decide +kernel
theorem dX11_reads_8 : decode cX11_reads 8 = .ok (.invokevirtual 96, 3) := by decide +kernel
theorem dX11_reads_11 : decode cX11_reads 11 = .ok (.istore_n 2, 1) := by decide +kernel
theorem dX11_reads_12 : decode cX11_reads 12 = .ok (.aload_n 0, 1) := by decide +kernel
theorem dX11_reads_13 : decode cX11_reads 13 = .ok (.iload_n 1, 1) := by decide +kernel
theorem dX11_reads_14 : decode cX11_reads 14 = .ok (.iload_n 2, 1) := by decide +kernel
theorem dX11_reads_15 : decode cX11_reads 15 = .ok (.invokevirtual 90, 3) := by decide +kernel
theorem dX11_reads_18 : decode cX11_reads 18 = .ok (.bipush 113, 2) := by decide +kernel
theorem dX11_reads_20 : decode cX11_reads 20 = .ok (.if_icmp .eq 5, 3) := by decide +kernel
theorem dX11_reads_23 : decode cX11_reads 23 = .ok (.iload_n 2, 1) := by decide +kernel
theorem dX11_reads_24 : decode cX11_reads 24 = .ok (.ireturn, 1) := by decide +kernel
theorem dX11_reads_25 : decode cX11_reads 25 = .ok (.iinc 2 1, 3) := by decide +kernel
theorem dX11_reads_28 : decode cX11_reads 28 = .ok (.aload_n 0, 1) := by decide +kernel
theorem dX11_reads_29 : decode cX11_reads 29 = .ok (.iload_n 1, 1) := by decide +kernel
theorem dX11_reads_30 : decode cX11_reads 30 = .ok (.iload_n 2, 1) := by decide +kernel
theorem dX11_reads_31 : decode cX11_reads 31 = .ok (.invokevirtual 90, 3) := by decide +kernel
theorem dX11_reads_34 : decode cX11_reads 34 = .ok (.i2l, 1) := by decide +kernel
theorem dX11_reads_35 : decode cX11_reads 35 = .ok (.ldc2_w 99, 3) := by decide +kernel
theorem dX11_reads_38 : decode cX11_reads 38 = .ok (.ldc2_w 101, 3) := by decide +kernel
theorem dX11_reads_41 : decode cX11_reads 41 = .ok (.invokestatic 76, 3) := by decide +kernel
theorem dX11_reads_44 : decode cX11_reads 44 = .ok (.ifCond .ne 5, 3) := by decide +kernel
theorem dX11_reads_47 : decode cX11_reads 47 = .ok (.iload_n 2, 1) := by decide +kernel
theorem dX11_reads_48 : decode cX11_reads 48 = .ok (.ireturn, 1) := by decide +kernel
theorem dX11_reads_49 : decode cX11_reads 49 = .ok (.aload_n 0, 1) := by decide +kernel
theorem dX11_reads_50 : decode cX11_reads 50 = .ok (.aload_n 0, 1) := by decide +kernel
theorem dX11_reads_51 : decode cX11_reads 51 = .ok (.iload_n 1, 1) := by decide +kernel
theorem dX11_reads_52 : decode cX11_reads 52 = .ok (.iload_n 2, 1) := by decide +kernel
theorem dX11_reads_53 : decode cX11_reads 53 = .ok (.invokevirtual 90, 3) := by decide +kernel
theorem dX11_reads_56 : decode cX11_reads 56 = .ok (.bipush 48, 2) := by decide +kernel
theorem dX11_reads_58 : decode cX11_reads 58 = .ok (.isub, 1) := by decide +kernel
theorem dX11_reads_59 : decode cX11_reads 59 = .ok (.putfield 103, 3) := by decide +kernel
theorem dX11_reads_62 : decode cX11_reads 62 = .ok (.aload_n 0, 1) := by decide +kernel
theorem dX11_reads_63 : decode cX11_reads 63 = .ok (.iload_n 1, 1) := by decide +kernel
theorem dX11_reads_64 : decode cX11_reads 64 = .ok (.iload_n 2, 1) := by decide +kernel
theorem dX11_reads_65 : decode cX11_reads 65 = .ok (.iconst 1, 1) := by decide +kernel
theorem dX11_reads_66 : decode cX11_reads 66 = .ok (.iadd, 1) := by decide +kernel
theorem dX11_reads_67 : decode cX11_reads 67 = .ok (.invokevirtual 96, 3) := by decide +kernel
theorem dX11_reads_70 : decode cX11_reads 70 = .ok (.istore_n 2, 1) := by decide +kernel
theorem dX11_reads_71 : decode cX11_reads 71 = .ok (.iload_n 2, 1) := by decide +kernel
theorem dX11_reads_72 : decode cX11_reads 72 = .ok (.aload_n 0, 1) := by decide +kernel
theorem dX11_reads_73 : decode cX11_reads 73 = .ok (.getfield 16, 3) := by decide +kernel
theorem dX11_reads_76 : decode cX11_reads 76 = .ok (.iload_n 1, 1) := by decide +kernel
theorem dX11_reads_77 : decode cX11_reads 77 = .ok (.iaload, 1) := by decide +kernel
theorem dX11_reads_78 : decode cX11_reads 78 = .ok (.if_icmp .ge 125, 3) := by decide +kernel
theorem dX11_reads_81 : decode cX11_reads 81 = .ok (.aload_n 0, 1) := by decide +kernel
theorem dX11_reads_82 : decode cX11_reads 82 = .ok (.iload_n 1, 1) := by decide +kernel
theorem dX11_reads_83 : decode cX11_reads 83 = .ok (.iload_n 2, 1) := by decide +kernel
theorem dX11_reads_84 : decode cX11_reads 84 = .ok (.invokevirtual 90, 3) := by decide +kernel
theorem dX11_reads_87 : decode cX11_reads 87 = .ok (.invokestatic 106, 3) := by decide +kernel
theorem dX11_reads_90 : decode cX11_reads 90 = .ok (.istore_n 3, 1) := by decide +kernel
theorem dX11_reads_91 : decode cX11_reads 91 = .ok (.iload_n 3, 1) := by decide +kernel
theorem dX11_reads_92 : decode cX11_reads 92 = .ok (.ifCond .lt 12, 3) := by decide +kernel
theorem dX11_reads_95 : decode cX11_reads 95 = .ok (.aload_n 0, 1) := by decide +kernel
theorem dX11_reads_96 : decode cX11_reads 96 = .ok (.getfield 93, 3) := by decide +kernel
theorem dX11_reads_99 : decode cX11_reads 99 = .ok (.bipush 14, 2) := by decide +kernel
theorem dX11_reads_101 : decode cX11_reads 101 = .ok (.if_icmp .ne 5, 3) := by decide +kernel
theorem dX11_reads_104 : decode cX11_reads 104 = .ok (.iload_n 2, 1) := by decide +kernel
theorem dX11_reads_105 : decode cX11_reads 105 = .ok (.ireturn, 1) := by decide +kernel
theorem dX11_reads_106 : decode cX11_reads 106 = .ok (.aload_n 0, 1) := by decide +kernel
theorem dX11_reads_107 : decode cX11_reads 107 = .ok (.getfield 32, 3) := by decide +kernel
theorem dX11_reads_110 : decode cX11_reads 110 = .ok (.aload_n 0, 1) := by decide +kernel
theorem dX11_reads_111 : decode cX11_reads 111 = .ok (.getfield 93, 3) := by decide +kernel
theorem dX11_reads_114 : decode cX11_reads 114 = .ok (.iload_n 3, 1) := by decide +kernel
theorem dX11_reads_115 : decode cX11_reads 115 = .ok (.iastore, 1) := by decide +kernel
theorem dX11_reads_116 : decode cX11_reads 116 = .ok (.iconst 0, 1) := by decide +kernel
theorem dX11_reads_117 : decode cX11_reads 117 = .ok (.istore 4, 2) := by decide +kernel
theorem dX11_reads_119 : decode cX11_reads 119 = .ok (.iload 4, 2) := by decide +kernel
theorem dX11_reads_121 : decode cX11_reads 121 = .ok (.aload_n 0, 1) := by decide +kernel
theorem dX11_reads_122 : decode cX11_reads 122 = .ok (.getfield 103, 3) := by decide +kernel
theorem dX11_reads_125 : decode cX11_reads 125 = .ok (.if_icmp .ge 56, 3) := by decide +kernel
theorem dX11_reads_128 : decode cX11_reads 128 = .ok (.iinc 2 1, 3) := by decide +kernel
theorem dX11_reads_131 : decode cX11_reads 131 = .ok (.aload_n 0, 1) := by decide +kernel
theorem dX11_reads_132 : decode cX11_reads 132 = .ok (.iload_n 1, 1) := by decide +kernel
theorem dX11_reads_133 : decode cX11_reads 133 = .ok (.iload_n 2, 1) := by decide +kernel
theorem dX11_reads_134 : decode cX11_reads 134 = .ok (.invokevirtual 90, 3) := by decide +kernel
theorem dX11_reads_137 : decode cX11_reads 137 = .ok (.i2l, 1) := by decide +kernel
theorem dX11_reads_138 : decode cX11_reads 138 = .ok (.ldc2_w 109, 3) := by decide +kernel
theorem dX11_reads_141 : decode cX11_reads 141 = .ok (.ldc2_w 111, 3) := by decide +kernel
theorem dX11_reads_144 : decode cX11_reads 144 = .ok (.invokestatic 76, 3) := by decide +kernel
theorem dX11_reads_147 : decode cX11_reads 147 = .ok (.ifCond .ne 5, 3) := by decide +kernel
theorem dX11_reads_150 : decode cX11_reads 150 = .ok (.iload_n 2, 1) := by decide +kernel
theorem dX11_reads_151 : decode cX11_reads 151 = .ok (.ireturn, 1) := by decide +kernel
theorem dX11_reads_152 : decode cX11_reads 152 = .ok (.aload_n 0, 1) := by decide +kernel
theorem dX11_reads_153 : decode cX11_reads 153 = .ok (.getfield 35, 3) := by decide +kernel
theorem dX11_reads_156 : decode cX11_reads 156 = .ok (.iconst 4, 1) := by decide +kernel
theorem dX11_reads_157 : decode cX11_reads 157 = .ok (.aload_n 0, 1) := by decide +kernel
theorem dX11_reads_158 : decode cX11_reads 158 = .ok (.getfield 93, 3) := by decide +kernel
theorem dX11_reads_161 : decode cX11_reads 161 = .ok (.imul, 1) := by decide +kernel
theorem dX11_reads_162 : decode cX11_reads 162 = .ok (.iload 4, 2) := by decide +kernel
theorem dX11_reads_164 : decode cX11_reads 164 = .ok (.iadd, 1) := by decide +kernel
theorem dX11_reads_165 : decode cX11_reads 165 = .ok (.aload_n 0, 1) := by decide +kernel
theorem dX11_reads_166 : decode cX11_reads 166 = .ok (.iload_n 1, 1) := by decide +kernel
theorem dX11_reads_167 : decode cX11_reads 167 = .ok (.iload_n 2, 1) := by decide +kernel
theorem dX11_reads_168 : decode cX11_reads 168 = .ok (.invokevirtual 90, 3) := by decide +kernel
theorem dX11_reads_171 : decode cX11_reads 171 = .ok (.bipush 48, 2) := by decide +kernel
theorem dX11_reads_173 : decode cX11_reads 173 = .ok (.isub, 1) := by decide +kernel
theorem dX11_reads_174 : decode cX11_reads 174 = .ok (.iastore, 1) := by decide +kernel
theorem dX11_reads_175 : decode cX11_reads 175 = .ok (.iinc 4 1, 3) := by decide +kernel
theorem dX11_reads_178 : decode cX11_reads 178 = .ok (.goto (-59), 3) := by decide +kernel
theorem dX11_reads_181 : decode cX11_reads 181 = .ok (.aload_n 0, 1) := by decide +kernel
theorem dX11_reads_182 : decode cX11_reads 182 = .ok (.dup, 1) := by decide +kernel
theorem dX11_reads_183 : decode cX11_reads 183 = .ok (.getfield 93, 3) := by decide +kernel
theorem dX11_reads_186 : decode cX11_reads 186 = .ok (.iconst 1, 1) := by decide +kernel
theorem dX11_reads_187 : decode cX11_reads 187 = .ok (.iadd, 1) := by decide +kernel
theorem dX11_reads_188 : decode cX11_reads 188 = .ok (.putfield 93, 3) := by decide +kernel
theorem dX11_reads_191 : decode cX11_reads 191 = .ok (.aload_n 0, 1) := by decide +kernel
theorem dX11_reads_192 : decode cX11_reads 192 = .ok (.iload_n 1, 1) := by decide +kernel
theorem dX11_reads_193 : decode cX11_reads 193 = .ok (.iload_n 2, 1) := by decide +kernel
theorem dX11_reads_194 : decode cX11_reads 194 = .ok (.iconst 1, 1) := by decide +kernel
theorem dX11_reads_195 : decode cX11_reads 195 = .ok (.iadd, 1) := by decide +kernel
theorem dX11_reads_196 : decode cX11_reads 196 = .ok (.invokevirtual 96, 3) := by decide +kernel
theorem dX11_reads_199 : decode cX11_reads 199 = .ok (.istore_n 2, 1) := by decide +kernel
theorem dX11_reads_200 : decode cX11_reads 200 = .ok (.goto (-129), 3) := by decide +kernel
theorem dX11_reads_203 : decode cX11_reads 203 = .ok (.aload_n 0, 1) := by decide +kernel
theorem dX11_reads_204 : decode cX11_reads 204 = .ok (.getfield 93, 3) := by decide +kernel
theorem dX11_reads_207 : decode cX11_reads 207 = .ok (.ifCond .ne 7, 3) := by decide +kernel
theorem dX11_reads_210 : decode cX11_reads 210 = .ok (.iload_n 2, 1) := by decide +kernel
theorem dX11_reads_211 : decode cX11_reads 211 = .ok (.goto 4, 3) := by decide +kernel
theorem dX11_reads_214 : decode cX11_reads 214 = .ok (.iconst (-1), 1) := by decide +kernel
theorem dX11_reads_215 : decode cX11_reads 215 = .ok (.ireturn, 1) := by decide +kernel
theorem dX11_fault_0 : decode cX11_fault 0 = .ok (.iload_n 1, 1) := by decide +kernel
theorem dX11_fault_1 : decode cX11_fault 1 = .ok (.i2l, 1) := by decide +kernel
theorem dX11_fault_2 : decode cX11_fault 2 = .ok (.lconst 0, 1) := by decide +kernel
theorem dX11_fault_3 : decode cX11_fault 3 = .ok (.ldc2_w 88, 3) := by decide +kernel
theorem dX11_fault_6 : decode cX11_fault 6 = .ok (.invokestatic 76, 3) := by decide +kernel
theorem dX11_fault_9 : decode cX11_fault 9 = .ok (.ifCond .ne 5, 3) := by decide +kernel
theorem dX11_fault_12 : decode cX11_fault 12 = .ok (.iconst (-1), 1) := by decide +kernel
theorem dX11_fault_13 : decode cX11_fault 13 = .ok (.ireturn, 1) := by decide +kernel
theorem dX11_fault_14 : decode cX11_fault 14 = .ok (.aload_n 0, 1) := by decide +kernel
theorem dX11_fault_15 : decode cX11_fault 15 = .ok (.getfield 16, 3) := by decide +kernel
theorem dX11_fault_18 : decode cX11_fault 18 = .ok (.iload_n 1, 1) := by decide +kernel
theorem dX11_fault_19 : decode cX11_fault 19 = .ok (.iaload, 1) := by decide +kernel
theorem dX11_fault_20 : decode cX11_fault 20 = .ok (.ifCond .ge 9, 3) := by decide +kernel
theorem dX11_fault_23 : decode cX11_fault 23 = .ok (.aload_n 0, 1) := by decide +kernel
theorem dX11_fault_24 : decode cX11_fault 24 = .ok (.iconst 1, 1) := by decide +kernel
theorem dX11_fault_25 : decode cX11_fault 25 = .ok (.invokevirtual 80, 3) := by decide +kernel
theorem dX11_fault_28 : decode cX11_fault 28 = .ok (.ireturn, 1) := by decide +kernel
theorem dX11_fault_29 : decode cX11_fault 29 = .ok (.aload_n 0, 1) := by decide +kernel
theorem dX11_fault_30 : decode cX11_fault 30 = .ok (.iload_n 1, 1) := by decide +kernel
theorem dX11_fault_31 : decode cX11_fault 31 = .ok (.invokevirtual 113, 3) := by decide +kernel
theorem dX11_fault_34 : decode cX11_fault 34 = .ok (.istore_n 2, 1) := by decide +kernel
theorem dX11_fault_35 : decode cX11_fault 35 = .ok (.iload_n 2, 1) := by decide +kernel
theorem dX11_fault_36 : decode cX11_fault 36 = .ok (.ifCond .ge 8, 3) := by decide +kernel
theorem dX11_fault_39 : decode cX11_fault 39 = .ok (.bipush (-9), 2) := by decide +kernel
theorem dX11_fault_41 : decode cX11_fault 41 = .ok (.goto 4, 3) := by decide +kernel
theorem dX11_fault_44 : decode cX11_fault 44 = .ok (.iload_n 2, 1) := by decide +kernel
theorem dX11_fault_45 : decode cX11_fault 45 = .ok (.ireturn, 1) := by decide +kernel
theorem dX11_piece_0 : decode cX11_piece 0 = .ok (.iload_n 1, 1) := by decide +kernel
theorem dX11_piece_1 : decode cX11_piece 1 = .ok (.i2l, 1) := by decide +kernel
theorem dX11_piece_2 : decode cX11_piece 2 = .ok (.lconst 0, 1) := by decide +kernel
theorem dX11_piece_3 : decode cX11_piece 3 = .ok (.ldc2_w 88, 3) := by decide +kernel
theorem dX11_piece_6 : decode cX11_piece 6 = .ok (.invokestatic 76, 3) := by decide +kernel
theorem dX11_piece_9 : decode cX11_piece 9 = .ok (.ifCond .ne 5, 3) := by decide +kernel
theorem dX11_piece_12 : decode cX11_piece 12 = .ok (.iconst (-1), 1) := by decide +kernel
theorem dX11_piece_13 : decode cX11_piece 13 = .ok (.ireturn, 1) := by decide +kernel
theorem dX11_piece_14 : decode cX11_piece 14 = .ok (.aload_n 0, 1) := by decide +kernel
theorem dX11_piece_15 : decode cX11_piece 15 = .ok (.getfield 16, 3) := by decide +kernel
theorem dX11_piece_18 : decode cX11_piece 18 = .ok (.iload_n 1, 1) := by decide +kernel
theorem dX11_piece_19 : decode cX11_piece 19 = .ok (.iaload, 1) := by decide +kernel
theorem dX11_piece_20 : decode cX11_piece 20 = .ok (.ifCond .ge 9, 3) := by decide +kernel
theorem dX11_piece_23 : decode cX11_piece 23 = .ok (.aload_n 0, 1) := by decide +kernel
theorem dX11_piece_24 : decode cX11_piece 24 = .ok (.iconst 1, 1) := by decide +kernel
theorem dX11_piece_25 : decode cX11_piece 25 = .ok (.invokevirtual 80, 3) := by decide +kernel
theorem dX11_piece_28 : decode cX11_piece 28 = .ok (.ireturn, 1) := by decide +kernel
theorem dX11_piece_29 : decode cX11_piece 29 = .ok (.aload_n 0, 1) := by decide +kernel
theorem dX11_piece_30 : decode cX11_piece 30 = .ok (.iload_n 1, 1) := by decide +kernel
theorem dX11_piece_31 : decode cX11_piece 31 = .ok (.invokevirtual 113, 3) := by decide +kernel
theorem dX11_piece_34 : decode cX11_piece 34 = .ok (.ifCond .lt 6, 3) := by decide +kernel
theorem dX11_piece_37 : decode cX11_piece 37 = .ok (.bipush (-4), 2) := by decide +kernel
theorem dX11_piece_39 : decode cX11_piece 39 = .ok (.ireturn, 1) := by decide +kernel
theorem dX11_piece_40 : decode cX11_piece 40 = .ok (.aload_n 0, 1) := by decide +kernel
theorem dX11_piece_41 : decode cX11_piece 41 = .ok (.aload_n 0, 1) := by decide +kernel
theorem dX11_piece_42 : decode cX11_piece 42 = .ok (.getfield 103, 3) := by decide +kernel
theorem dX11_piece_45 : decode cX11_piece 45 = .ok (.putfield 116, 3) := by decide +kernel
theorem dX11_piece_48 : decode cX11_piece 48 = .ok (.aload_n 0, 1) := by decide +kernel
theorem dX11_piece_49 : decode cX11_piece 49 = .ok (.aload_n 0, 1) := by decide +kernel
theorem dX11_piece_50 : decode cX11_piece 50 = .ok (.getfield 93, 3) := by decide +kernel
theorem dX11_piece_53 : decode cX11_piece 53 = .ok (.putfield 119, 3) := by decide +kernel
theorem dX11_piece_56 : decode cX11_piece 56 = .ok (.iconst 0, 1) := by decide +kernel
theorem dX11_piece_57 : decode cX11_piece 57 = .ok (.istore_n 2, 1) := by decide +kernel
theorem dX11_piece_58 : decode cX11_piece 58 = .ok (.iload_n 2, 1) := by decide +kernel
theorem dX11_piece_59 : decode cX11_piece 59 = .ok (.bipush 56, 2) := by decide +kernel
theorem dX11_piece_61 : decode cX11_piece 61 = .ok (.if_icmp .ge 53, 3) := by decide +kernel
theorem dX11_piece_64 : decode cX11_piece 64 = .ok (.aload_n 0, 1) := by decide +kernel
theorem dX11_piece_65 : decode cX11_piece 65 = .ok (.getfield 29, 3) := by decide +kernel
theorem dX11_piece_68 : decode cX11_piece 68 = .ok (.iload_n 2, 1) := by decide +kernel
theorem dX11_piece_69 : decode cX11_piece 69 = .ok (.aload_n 0, 1) := by decide +kernel
theorem dX11_piece_70 : decode cX11_piece 70 = .ok (.getfield 35, 3) := by decide +kernel
theorem dX11_piece_73 : decode cX11_piece 73 = .ok (.iload_n 2, 1) := by decide +kernel
theorem dX11_piece_74 : decode cX11_piece 74 = .ok (.iaload, 1) := by decide +kernel
theorem dX11_piece_75 : decode cX11_piece 75 = .ok (.iastore, 1) := by decide +kernel
theorem dX11_piece_76 : decode cX11_piece 76 = .ok (.iload_n 2, 1) := by decide +kernel
theorem dX11_piece_77 : decode cX11_piece 77 = .ok (.bipush 14, 2) := by decide +kernel
theorem dX11_piece_79 : decode cX11_piece 79 = .ok (.if_icmp .ge 15, 3) := by decide +kernel
theorem dX11_piece_82 : decode cX11_piece 82 = .ok (.aload_n 0, 1) := by decide +kernel
theorem dX11_piece_83 : decode cX11_piece 83 = .ok (.getfield 26, 3) := by decide +kernel
theorem dX11_piece_86 : decode cX11_piece 86 = .ok (.iload_n 2, 1) := by decide +kernel
theorem dX11_piece_87 : decode cX11_piece 87 = .ok (.aload_n 0, 1) := by decide +kernel
theorem dX11_piece_88 : decode cX11_piece 88 = .ok (.getfield 32, 3) := by decide +kernel
theorem dX11_piece_91 : decode cX11_piece 91 = .ok (.iload_n 2, 1) := by decide +kernel
theorem dX11_piece_92 : decode cX11_piece 92 = .ok (.iaload, 1) := by decide +kernel
theorem dX11_piece_93 : decode cX11_piece 93 = .ok (.iastore, 1) := by decide +kernel
theorem dX11_piece_94 : decode cX11_piece 94 = .ok (.iload_n 2, 1) := by decide +kernel
theorem dX11_piece_95 : decode cX11_piece 95 = .ok (.iconst 3, 1) := by decide +kernel
theorem dX11_piece_96 : decode cX11_piece 96 = .ok (.if_icmp .ge 12, 3) := by decide +kernel
theorem dX11_piece_99 : decode cX11_piece 99 = .ok (.aload_n 0, 1) := by decide +kernel
theorem dX11_piece_100 : decode cX11_piece 100 = .ok (.getfield 38, 3) := by decide +kernel
theorem dX11_piece_103 : decode cX11_piece 103 = .ok (.iload_n 2, 1) := by decide +kernel
theorem dX11_piece_104 : decode cX11_piece 104 = .ok (.iconst 1, 1) := by decide +kernel
theorem dX11_piece_105 : decode cX11_piece 105 = .ok (.iadd, 1) := by decide +kernel
theorem dX11_piece_106 : decode cX11_piece 106 = .ok (.iconst (-1), 1) := by decide +kernel
theorem dX11_piece_107 : decode cX11_piece 107 = .ok (.iastore, 1) := by decide +kernel
theorem dX11_piece_108 : decode cX11_piece 108 = .ok (.iinc 2 1, 3) := by decide +kernel
theorem dX11_piece_111 : decode cX11_piece 111 = .ok (.goto (-53), 3) := by decide +kernel
theorem dX11_piece_114 : decode cX11_piece 114 = .ok (.aload_n 0, 1) := by decide +kernel
theorem dX11_piece_115 : decode cX11_piece 115 = .ok (.getfield 38, 3) := by decide +kernel
theorem dX11_piece_118 : decode cX11_piece 118 = .ok (.iconst 0, 1) := by decide +kernel
theorem dX11_piece_119 : decode cX11_piece 119 = .ok (.iconst 0, 1) := by decide +kernel
theorem dX11_piece_120 : decode cX11_piece 120 = .ok (.iastore, 1) := by decide +kernel
theorem dX11_piece_121 : decode cX11_piece 121 = .ok (.aload_n 0, 1) := by decide +kernel
theorem dX11_piece_122 : decode cX11_piece 122 = .ok (.invokevirtual 122, 3) := by decide +kernel
theorem dX11_piece_125 : decode cX11_piece 125 = .ok (.aload_n 0, 1) := by decide +kernel
theorem dX11_piece_126 : decode cX11_piece 126 = .ok (.getfield 119, 3) := by decide +kernel
theorem dX11_piece_129 : decode cX11_piece 129 = .ok (.ireturn, 1) := by decide +kernel
theorem dX11_isPlace_0 : decode cX11_isPlace 0 = .ok (.iload_n 1, 1) := by decide +kernel
theorem dX11_isPlace_1 : decode cX11_isPlace 1 = .ok (.i2l, 1) := by decide +kernel
theorem dX11_isPlace_2 : decode cX11_isPlace 2 = .ok (.lconst 0, 1) := by decide +kernel
theorem dX11_isPlace_3 : decode cX11_isPlace 3 = .ok (.aload_n 0, 1) := by decide +kernel
theorem dX11_isPlace_4 : decode cX11_isPlace 4 = .ok (.getfield 119, 3) := by decide +kernel
theorem dX11_isPlace_7 : decode cX11_isPlace 7 = .ok (.iconst 1, 1) := by decide +kernel
theorem dX11_isPlace_8 : decode cX11_isPlace 8 = .ok (.isub, 1) := by decide +kernel
theorem dX11_isPlace_9 : decode cX11_isPlace 9 = .ok (.i2l, 1) := by decide +kernel
theorem dX11_isPlace_10 : decode cX11_isPlace 10 = .ok (.invokestatic 76, 3) := by decide +kernel
theorem dX11_isPlace_13 : decode cX11_isPlace 13 = .ok (.ireturn, 1) := by decide +kernel
theorem dX11_isPlayer_0 : decode cX11_isPlayer 0 = .ok (.iload_n 1, 1) := by decide +kernel
theorem dX11_isPlayer_1 : decode cX11_isPlayer 1 = .ok (.i2l, 1) := by decide +kernel
theorem dX11_isPlayer_2 : decode cX11_isPlayer 2 = .ok (.lconst 0, 1) := by decide +kernel
theorem dX11_isPlayer_3 : decode cX11_isPlayer 3 = .ok (.aload_n 0, 1) := by decide +kernel
theorem dX11_isPlayer_4 : decode cX11_isPlayer 4 = .ok (.getfield 116, 3) := by decide +kernel
theorem dX11_isPlayer_7 : decode cX11_isPlayer 7 = .ok (.iconst 1, 1) := by decide +kernel
theorem dX11_isPlayer_8 : decode cX11_isPlayer 8 = .ok (.isub, 1) := by decide +kernel
theorem dX11_isPlayer_9 : decode cX11_isPlayer 9 = .ok (.i2l, 1) := by decide +kernel
theorem dX11_isPlayer_10 : decode cX11_isPlayer 10 = .ok (.invokestatic 76, 3) := by decide +kernel
theorem dX11_isPlayer_13 : decode cX11_isPlayer 13 = .ok (.ireturn, 1) := by decide +kernel
theorem dX11_sounds_0 : decode cX11_sounds 0 = .ok (.aload_n 0, 1) := by decide +kernel
theorem dX11_sounds_1 : decode cX11_sounds 1 = .ok (.iload_n 2, 1) := by decide +kernel
theorem dX11_sounds_2 : decode cX11_sounds 2 = .ok (.iload_n 3, 1) := by decide +kernel
theorem dX11_sounds_3 : decode cX11_sounds 3 = .ok (.iadd, 1) := by decide +kernel
theorem dX11_sounds_4 : decode cX11_sounds 4 = .ok (.invokevirtual 125, 3) := by decide +kernel
theorem dX11_sounds_7 : decode cX11_sounds 7 = .ok (.ifCond .eq 18, 3) := by decide +kernel
theorem dX11_sounds_10 : decode cX11_sounds 10 = .ok (.aload_n 0, 1) := by decide +kernel
theorem dX11_sounds_11 : decode cX11_sounds 11 = .ok (.getfield 29, 3) := by decide +kernel
theorem dX11_sounds_14 : decode cX11_sounds 14 = .ok (.iconst 4, 1) := by decide +kernel
theorem dX11_sounds_15 : decode cX11_sounds 15 = .ok (.iload_n 2, 1) := by decide +kernel
theorem dX11_sounds_16 : decode cX11_sounds 16 = .ok (.iload_n 3, 1) := by decide +kernel
theorem dX11_sounds_17 : decode cX11_sounds 17 = .ok (.iadd, 1) := by decide +kernel
theorem dX11_sounds_18 : decode cX11_sounds 18 = .ok (.imul, 1) := by decide +kernel
theorem dX11_sounds_19 : decode cX11_sounds 19 = .ok (.iload_n 1, 1) := by decide +kernel
theorem dX11_sounds_20 : decode cX11_sounds 20 = .ok (.iadd, 1) := by decide +kernel
theorem dX11_sounds_21 : decode cX11_sounds 21 = .ok (.iaload, 1) := by decide +kernel
theorem dX11_sounds_22 : decode cX11_sounds 22 = .ok (.goto 5, 3) := by decide +kernel
theorem dX11_sounds_25 : decode cX11_sounds 25 = .ok (.bipush 9, 2) := by decide +kernel
theorem dX11_sounds_27 : decode cX11_sounds 27 = .ok (.istore 4, 2) := by decide +kernel
theorem dX11_sounds_29 : decode cX11_sounds 29 = .ok (.iload 4, 2) := by decide +kernel
theorem dX11_sounds_31 : decode cX11_sounds 31 = .ok (.bipush 8, 2) := by decide +kernel
theorem dX11_sounds_33 : decode cX11_sounds 33 = .ok (.if_icmp .ge 8, 3) := by decide +kernel
theorem dX11_sounds_36 : decode cX11_sounds 36 = .ok (.iload 4, 2) := by decide +kernel
theorem dX11_sounds_38 : decode cX11_sounds 38 = .ok (.goto 4, 3) := by decide +kernel
theorem dX11_sounds_41 : decode cX11_sounds 41 = .ok (.iconst (-1), 1) := by decide +kernel
theorem dX11_sounds_42 : decode cX11_sounds 42 = .ok (.ireturn, 1) := by decide +kernel
theorem dX11_isClash_0 : decode cX11_isClash 0 = .ok (.iload_n 1, 1) := by decide +kernel
theorem dX11_isClash_1 : decode cX11_isClash 1 = .ok (.iload_n 2, 1) := by decide +kernel
theorem dX11_isClash_2 : decode cX11_isClash 2 = .ok (.if_icmp .le 9, 3) := by decide +kernel
theorem dX11_isClash_5 : decode cX11_isClash 5 = .ok (.iload_n 1, 1) := by decide +kernel
theorem dX11_isClash_6 : decode cX11_isClash 6 = .ok (.iload_n 2, 1) := by decide +kernel
theorem dX11_isClash_7 : decode cX11_isClash 7 = .ok (.isub, 1) := by decide +kernel
theorem dX11_isClash_8 : decode cX11_isClash 8 = .ok (.goto 6, 3) := by decide +kernel
theorem dX11_isClash_11 : decode cX11_isClash 11 = .ok (.iload_n 2, 1) := by decide +kernel
theorem dX11_isClash_12 : decode cX11_isClash 12 = .ok (.iload_n 1, 1) := by decide +kernel
theorem dX11_isClash_13 : decode cX11_isClash 13 = .ok (.isub, 1) := by decide +kernel
theorem dX11_isClash_14 : decode cX11_isClash 14 = .ok (.istore_n 3, 1) := by decide +kernel
theorem dX11_isClash_15 : decode cX11_isClash 15 = .ok (.iload_n 1, 1) := by decide +kernel
theorem dX11_isClash_16 : decode cX11_isClash 16 = .ok (.ifCond .lt 17, 3) := by decide +kernel
theorem dX11_isClash_19 : decode cX11_isClash 19 = .ok (.iload_n 2, 1) := by decide +kernel
theorem dX11_isClash_20 : decode cX11_isClash 20 = .ok (.ifCond .lt 13, 3) := by decide +kernel
theorem dX11_isClash_23 : decode cX11_isClash 23 = .ok (.iload_n 0, 1) := by decide +kernel
theorem dX11_isClash_24 : decode cX11_isClash 24 = .ok (.iconst 2, 1) := by decide +kernel
theorem dX11_isClash_25 : decode cX11_isClash 25 = .ok (.if_icmp .eq 8, 3) := by decide +kernel
theorem dX11_isClash_28 : decode cX11_isClash 28 = .ok (.iload_n 0, 1) := by decide +kernel
theorem dX11_isClash_29 : decode cX11_isClash 29 = .ok (.iconst 4, 1) := by decide +kernel
theorem dX11_isClash_30 : decode cX11_isClash 30 = .ok (.if_icmp .ne 5, 3) := by decide +kernel
theorem dX11_isClash_33 : decode cX11_isClash 33 = .ok (.iconst 0, 1) := by decide +kernel
theorem dX11_isClash_34 : decode cX11_isClash 34 = .ok (.ireturn, 1) := by decide +kernel
theorem dX11_isClash_35 : decode cX11_isClash 35 = .ok (.iload_n 0, 1) := by decide +kernel
theorem dX11_isClash_36 : decode cX11_isClash 36 = .ok (.ifCond .ne 22, 3) := by decide +kernel
theorem dX11_isClash_39 : decode cX11_isClash 39 = .ok (.iload_n 3, 1) := by decide +kernel
theorem dX11_isClash_40 : decode cX11_isClash 40 = .ok (.iconst 1, 1) := by decide +kernel
theorem dX11_isClash_41 : decode cX11_isClash 41 = .ok (.if_icmp .eq 9, 3) := by decide +kernel
theorem dX11_isClash_44 : decode cX11_isClash 44 = .ok (.iload_n 3, 1) := by decide +kernel
theorem dX11_isClash_45 : decode cX11_isClash 45 = .ok (.bipush 6, 2) := by decide +kernel
theorem dX11_isClash_47 : decode cX11_isClash 47 = .ok (.if_icmp .ne 7, 3) := by decide +kernel
theorem dX11_isClash_50 : decode cX11_isClash 50 = .ok (.iconst 1, 1) := by decide +kernel
theorem dX11_isClash_51 : decode cX11_isClash 51 = .ok (.goto 34, 3) := by decide +kernel
theorem dX11_isClash_54 : decode cX11_isClash 54 = .ok (.iconst 0, 1) := by decide +kernel
theorem dX11_isClash_55 : decode cX11_isClash 55 = .ok (.goto 30, 3) := by decide +kernel
theorem dX11_isClash_58 : decode cX11_isClash 58 = .ok (.iload_n 0, 1) := by decide +kernel
theorem dX11_isClash_59 : decode cX11_isClash 59 = .ok (.iconst 5, 1) := by decide +kernel
theorem dX11_isClash_60 : decode cX11_isClash 60 = .ok (.if_icmp .ne 16, 3) := by decide +kernel
theorem dX11_isClash_63 : decode cX11_isClash 63 = .ok (.iload_n 3, 1) := by decide +kernel
theorem dX11_isClash_64 : decode cX11_isClash 64 = .ok (.iconst 1, 1) := by decide +kernel
theorem dX11_isClash_65 : decode cX11_isClash 65 = .ok (.if_icmp .ne 7, 3) := by decide +kernel
theorem dX11_isClash_68 : decode cX11_isClash 68 = .ok (.iconst 1, 1) := by decide +kernel
theorem dX11_isClash_69 : decode cX11_isClash 69 = .ok (.goto 16, 3) := by decide +kernel
theorem dX11_isClash_72 : decode cX11_isClash 72 = .ok (.iconst 0, 1) := by decide +kernel
theorem dX11_isClash_73 : decode cX11_isClash 73 = .ok (.goto 12, 3) := by decide +kernel
theorem dX11_isClash_76 : decode cX11_isClash 76 = .ok (.iload_n 3, 1) := by decide +kernel
theorem dX11_isClash_77 : decode cX11_isClash 77 = .ok (.ifCond .le 7, 3) := by decide +kernel
theorem dX11_isClash_80 : decode cX11_isClash 80 = .ok (.iconst 1, 1) := by decide +kernel
theorem dX11_isClash_81 : decode cX11_isClash 81 = .ok (.goto 4, 3) := by decide +kernel
theorem dX11_isClash_84 : decode cX11_isClash 84 = .ok (.iconst 0, 1) := by decide +kernel
theorem dX11_isClash_85 : decode cX11_isClash 85 = .ok (.ireturn, 1) := by decide +kernel
theorem dX11_clashes_0 : decode cX11_clashes 0 = .ok (.iconst 0, 1) := by decide +kernel
theorem dX11_clashes_1 : decode cX11_clashes 1 = .ok (.istore_n 3, 1) := by decide +kernel
theorem dX11_clashes_2 : decode cX11_clashes 2 = .ok (.iconst 0, 1) := by decide +kernel
theorem dX11_clashes_3 : decode cX11_clashes 3 = .ok (.istore 4, 2) := by decide +kernel
theorem dX11_clashes_5 : decode cX11_clashes 5 = .ok (.iconst 0, 1) := by decide +kernel
theorem dX11_clashes_6 : decode cX11_clashes 6 = .ok (.istore 5, 2) := by decide +kernel
theorem dX11_clashes_8 : decode cX11_clashes 8 = .ok (.iload 5, 2) := by decide +kernel
theorem dX11_clashes_10 : decode cX11_clashes 10 = .ok (.aload_n 0, 1) := by decide +kernel
theorem dX11_clashes_11 : decode cX11_clashes 11 = .ok (.getfield 116, 3) := by decide +kernel
theorem dX11_clashes_14 : decode cX11_clashes 14 = .ok (.if_icmp .ge 79, 3) := by decide +kernel
theorem dX11_clashes_17 : decode cX11_clashes 17 = .ok (.iload 5, 2) := by decide +kernel
theorem dX11_clashes_19 : decode cX11_clashes 19 = .ok (.iconst 1, 1) := by decide +kernel
theorem dX11_clashes_20 : decode cX11_clashes 20 = .ok (.iadd, 1) := by decide +kernel
theorem dX11_clashes_21 : decode cX11_clashes 21 = .ok (.istore 6, 2) := by decide +kernel
theorem dX11_clashes_23 : decode cX11_clashes 23 = .ok (.iload 6, 2) := by decide +kernel
theorem dX11_clashes_25 : decode cX11_clashes 25 = .ok (.aload_n 0, 1) := by decide +kernel
theorem dX11_clashes_26 : decode cX11_clashes 26 = .ok (.getfield 116, 3) := by decide +kernel
theorem dX11_clashes_29 : decode cX11_clashes 29 = .ok (.if_icmp .ge 58, 3) := by decide +kernel
theorem dX11_clashes_32 : decode cX11_clashes 32 = .ok (.iload_n 3, 1) := by decide +kernel
theorem dX11_clashes_33 : decode cX11_clashes 33 = .ok (.iload_n 2, 1) := by decide +kernel
theorem dX11_clashes_34 : decode cX11_clashes 34 = .ok (.aload_n 0, 1) := by decide +kernel
theorem dX11_clashes_35 : decode cX11_clashes 35 = .ok (.iload 5, 2) := by decide +kernel
theorem dX11_clashes_37 : decode cX11_clashes 37 = .ok (.iload_n 1, 1) := by decide +kernel
theorem dX11_clashes_38 : decode cX11_clashes 38 = .ok (.aload_n 0, 1) := by decide +kernel
theorem dX11_clashes_39 : decode cX11_clashes 39 = .ok (.getfield 57, 3) := by decide +kernel
theorem dX11_clashes_42 : decode cX11_clashes 42 = .ok (.iload 5, 2) := by decide +kernel
theorem dX11_clashes_44 : decode cX11_clashes 44 = .ok (.iaload, 1) := by decide +kernel
theorem dX11_clashes_45 : decode cX11_clashes 45 = .ok (.invokevirtual 129, 3) := by decide +kernel
theorem dX11_clashes_48 : decode cX11_clashes 48 = .ok (.aload_n 0, 1) := by decide +kernel
theorem dX11_clashes_49 : decode cX11_clashes 49 = .ok (.iload 6, 2) := by decide +kernel
theorem dX11_clashes_51 : decode cX11_clashes 51 = .ok (.iload_n 1, 1) := by decide +kernel
theorem dX11_clashes_52 : decode cX11_clashes 52 = .ok (.aload_n 0, 1) := by decide +kernel
theorem dX11_clashes_53 : decode cX11_clashes 53 = .ok (.getfield 57, 3) := by decide +kernel
theorem dX11_clashes_56 : decode cX11_clashes 56 = .ok (.iload 6, 2) := by decide +kernel
theorem dX11_clashes_58 : decode cX11_clashes 58 = .ok (.iaload, 1) := by decide +kernel
theorem dX11_clashes_59 : decode cX11_clashes 59 = .ok (.invokevirtual 129, 3) := by decide +kernel
theorem dX11_clashes_62 : decode cX11_clashes 62 = .ok (.invokestatic 133, 3) := by decide +kernel
theorem dX11_clashes_65 : decode cX11_clashes 65 = .ok (.ifCond .eq 10, 3) := by decide +kernel
theorem dX11_clashes_68 : decode cX11_clashes 68 = .ok (.iconst 1, 1) := by decide +kernel
theorem dX11_clashes_69 : decode cX11_clashes 69 = .ok (.iload 4, 2) := by decide +kernel
theorem dX11_clashes_71 : decode cX11_clashes 71 = .ok (.ishl, 1) := by decide +kernel
theorem dX11_clashes_72 : decode cX11_clashes 72 = .ok (.goto 4, 3) := by decide +kernel
theorem dX11_clashes_75 : decode cX11_clashes 75 = .ok (.iconst 0, 1) := by decide +kernel
theorem dX11_clashes_76 : decode cX11_clashes 76 = .ok (.ior, 1) := by decide +kernel
theorem dX11_clashes_77 : decode cX11_clashes 77 = .ok (.istore_n 3, 1) := by decide +kernel
theorem dX11_clashes_78 : decode cX11_clashes 78 = .ok (.iinc 4 1, 3) := by decide +kernel
theorem dX11_clashes_81 : decode cX11_clashes 81 = .ok (.iinc 6 1, 3) := by decide +kernel
theorem dX11_clashes_84 : decode cX11_clashes 84 = .ok (.goto (-61), 3) := by decide +kernel
theorem dX11_clashes_87 : decode cX11_clashes 87 = .ok (.iinc 5 1, 3) := by decide +kernel
theorem dX11_clashes_90 : decode cX11_clashes 90 = .ok (.goto (-82), 3) := by decide +kernel
theorem dX11_clashes_93 : decode cX11_clashes 93 = .ok (.iload_n 3, 1) := by decide +kernel
theorem dX11_clashes_94 : decode cX11_clashes 94 = .ok (.ireturn, 1) := by decide +kernel
theorem dX11_hears_0 : decode cX11_hears 0 = .ok (.aload_n 0, 1) := by decide +kernel
theorem dX11_hears_1 : decode cX11_hears 1 = .ok (.iload_n 1, 1) := by decide +kernel
theorem dX11_hears_2 : decode cX11_hears 2 = .ok (.aload_n 0, 1) := by decide +kernel
theorem dX11_hears_3 : decode cX11_hears 3 = .ok (.getfield 26, 3) := by decide +kernel
theorem dX11_hears_6 : decode cX11_hears 6 = .ok (.iload_n 1, 1) := by decide +kernel
theorem dX11_hears_7 : decode cX11_hears 7 = .ok (.iaload, 1) := by decide +kernel
theorem dX11_hears_8 : decode cX11_hears 8 = .ok (.invokevirtual 137, 3) := by decide +kernel
theorem dX11_hears_11 : decode cX11_hears 11 = .ok (.ireturn, 1) := by decide +kernel
theorem dX11_bits_0 : decode cX11_bits 0 = .ok (.iconst 0, 1) := by decide +kernel
theorem dX11_bits_1 : decode cX11_bits 1 = .ok (.istore_n 1, 1) := by decide +kernel
theorem dX11_bits_2 : decode cX11_bits 2 = .ok (.iconst 0, 1) := by decide +kernel
theorem dX11_bits_3 : decode cX11_bits 3 = .ok (.istore_n 2, 1) := by decide +kernel
theorem dX11_bits_4 : decode cX11_bits 4 = .ok (.iload_n 2, 1) := by decide +kernel
theorem dX11_bits_5 : decode cX11_bits 5 = .ok (.bipush 14, 2) := by decide +kernel
theorem dX11_bits_7 : decode cX11_bits 7 = .ok (.if_icmp .ge 17, 3) := by decide +kernel
theorem dX11_bits_10 : decode cX11_bits 10 = .ok (.iload_n 1, 1) := by decide +kernel
theorem dX11_bits_11 : decode cX11_bits 11 = .ok (.iload_n 0, 1) := by decide +kernel
theorem dX11_bits_12 : decode cX11_bits 12 = .ok (.iload_n 2, 1) := by decide +kernel
theorem dX11_bits_13 : decode cX11_bits 13 = .ok (.ishr, 1) := by decide +kernel
theorem dX11_bits_14 : decode cX11_bits 14 = .ok (.iconst 1, 1) := by decide +kernel
theorem dX11_bits_15 : decode cX11_bits 15 = .ok (.iand, 1) := by decide +kernel
theorem dX11_bits_16 : decode cX11_bits 16 = .ok (.iadd, 1) := by decide +kernel
theorem dX11_bits_17 : decode cX11_bits 17 = .ok (.istore_n 1, 1) := by decide +kernel
theorem dX11_bits_18 : decode cX11_bits 18 = .ok (.iinc 2 1, 3) := by decide +kernel
theorem dX11_bits_21 : decode cX11_bits 21 = .ok (.goto (-17), 3) := by decide +kernel
theorem dX11_bits_24 : decode cX11_bits 24 = .ok (.iload_n 1, 1) := by decide +kernel
theorem dX11_bits_25 : decode cX11_bits 25 = .ok (.ireturn, 1) := by decide +kernel
theorem dX11_nobody_0 : decode cX11_nobody 0 = .ok (.iconst 0, 1) := by decide +kernel
theorem dX11_nobody_1 : decode cX11_nobody 1 = .ok (.istore_n 1, 1) := by decide +kernel
theorem dX11_nobody_2 : decode cX11_nobody 2 = .ok (.iload_n 1, 1) := by decide +kernel
theorem dX11_nobody_3 : decode cX11_nobody 3 = .ok (.iconst 4, 1) := by decide +kernel
theorem dX11_nobody_4 : decode cX11_nobody 4 = .ok (.if_icmp .ge 16, 3) := by decide +kernel
theorem dX11_nobody_7 : decode cX11_nobody 7 = .ok (.aload_n 0, 1) := by decide +kernel
theorem dX11_nobody_8 : decode cX11_nobody 8 = .ok (.getfield 57, 3) := by decide +kernel
theorem dX11_nobody_11 : decode cX11_nobody 11 = .ok (.iload_n 1, 1) := by decide +kernel
theorem dX11_nobody_12 : decode cX11_nobody 12 = .ok (.iconst 0, 1) := by decide +kernel
theorem dX11_nobody_13 : decode cX11_nobody 13 = .ok (.iastore, 1) := by decide +kernel
theorem dX11_nobody_14 : decode cX11_nobody 14 = .ok (.iinc 1 1, 3) := by decide +kernel
theorem dX11_nobody_17 : decode cX11_nobody 17 = .ok (.goto (-15), 3) := by decide +kernel
theorem dX11_nobody_20 : decode cX11_nobody 20 = .ok (.return_, 1) := by decide +kernel
theorem dX11_asOut_0 : decode cX11_asOut 0 = .ok (.iconst 0, 1) := by decide +kernel
theorem dX11_asOut_1 : decode cX11_asOut 1 = .ok (.istore_n 1, 1) := by decide +kernel
theorem dX11_asOut_2 : decode cX11_asOut 2 = .ok (.iload_n 1, 1) := by decide +kernel
theorem dX11_asOut_3 : decode cX11_asOut 3 = .ok (.iconst 4, 1) := by decide +kernel
theorem dX11_asOut_4 : decode cX11_asOut 4 = .ok (.if_icmp .ge 21, 3) := by decide +kernel
theorem dX11_asOut_7 : decode cX11_asOut 7 = .ok (.aload_n 0, 1) := by decide +kernel
theorem dX11_asOut_8 : decode cX11_asOut 8 = .ok (.getfield 57, 3) := by decide +kernel
theorem dX11_asOut_11 : decode cX11_asOut 11 = .ok (.iload_n 1, 1) := by decide +kernel
theorem dX11_asOut_12 : decode cX11_asOut 12 = .ok (.aload_n 0, 1) := by decide +kernel
theorem dX11_asOut_13 : decode cX11_asOut 13 = .ok (.getfield 44, 3) := by decide +kernel
theorem dX11_asOut_16 : decode cX11_asOut 16 = .ok (.iload_n 1, 1) := by decide +kernel
theorem dX11_asOut_17 : decode cX11_asOut 17 = .ok (.iaload, 1) := by decide +kernel
theorem dX11_asOut_18 : decode cX11_asOut 18 = .ok (.iastore, 1) := by decide +kernel
theorem dX11_asOut_19 : decode cX11_asOut 19 = .ok (.iinc 1 1, 3) := by decide +kernel
theorem dX11_asOut_22 : decode cX11_asOut 22 = .ok (.goto (-20), 3) := by decide +kernel
theorem dX11_asOut_25 : decode cX11_asOut 25 = .ok (.return_, 1) := by decide +kernel
theorem dX11_plain_0 : decode cX11_plain 0 = .ok (.aload_n 0, 1) := by decide +kernel
theorem dX11_plain_1 : decode cX11_plain 1 = .ok (.invokevirtual 140, 3) := by decide +kernel
theorem dX11_plain_4 : decode cX11_plain 4 = .ok (.aload_n 0, 1) := by decide +kernel
theorem dX11_plain_5 : decode cX11_plain 5 = .ok (.iload_n 1, 1) := by decide +kernel
theorem dX11_plain_6 : decode cX11_plain 6 = .ok (.invokevirtual 143, 3) := by decide +kernel
theorem dX11_plain_9 : decode cX11_plain 9 = .ok (.ireturn, 1) := by decide +kernel
theorem dX11_soundings_0 : decode cX11_soundings 0 = .ok (.iconst 0, 1) := by decide +kernel
theorem dX11_soundings_1 : decode cX11_soundings 1 = .ok (.istore_n 2, 1) := by decide +kernel
theorem dX11_soundings_2 : decode cX11_soundings 2 = .ok (.iconst 0, 1) := by decide +kernel
theorem dX11_soundings_3 : decode cX11_soundings 3 = .ok (.istore_n 3, 1) := by decide +kernel
theorem dX11_soundings_4 : decode cX11_soundings 4 = .ok (.iload_n 3, 1) := by decide +kernel
theorem dX11_soundings_5 : decode cX11_soundings 5 = .ok (.aload_n 0, 1) := by decide +kernel
theorem dX11_soundings_6 : decode cX11_soundings 6 = .ok (.getfield 116, 3) := by decide +kernel
theorem dX11_soundings_9 : decode cX11_soundings 9 = .ok (.if_icmp .ge 27, 3) := by decide +kernel
theorem dX11_soundings_12 : decode cX11_soundings 12 = .ok (.iload_n 2, 1) := by decide +kernel
theorem dX11_soundings_13 : decode cX11_soundings 13 = .ok (.aload_n 0, 1) := by decide +kernel
theorem dX11_soundings_14 : decode cX11_soundings 14 = .ok (.iload_n 3, 1) := by decide +kernel
theorem dX11_soundings_15 : decode cX11_soundings 15 = .ok (.iload_n 1, 1) := by decide +kernel
theorem dX11_soundings_16 : decode cX11_soundings 16 = .ok (.iconst 0, 1) := by decide +kernel
theorem dX11_soundings_17 : decode cX11_soundings 17 = .ok (.invokevirtual 129, 3) := by decide +kernel
theorem dX11_soundings_20 : decode cX11_soundings 20 = .ok (.ifCond .lt 7, 3) := by decide +kernel
theorem dX11_soundings_23 : decode cX11_soundings 23 = .ok (.iconst 1, 1) := by decide +kernel
theorem dX11_soundings_24 : decode cX11_soundings 24 = .ok (.goto 4, 3) := by decide +kernel
theorem dX11_soundings_27 : decode cX11_soundings 27 = .ok (.iconst 0, 1) := by decide +kernel
theorem dX11_soundings_28 : decode cX11_soundings 28 = .ok (.iadd, 1) := by decide +kernel
theorem dX11_soundings_29 : decode cX11_soundings 29 = .ok (.istore_n 2, 1) := by decide +kernel
theorem dX11_soundings_30 : decode cX11_soundings 30 = .ok (.iinc 3 1, 3) := by decide +kernel
theorem dX11_soundings_33 : decode cX11_soundings 33 = .ok (.goto (-29), 3) := by decide +kernel
theorem dX11_soundings_36 : decode cX11_soundings 36 = .ok (.iload_n 2, 1) := by decide +kernel
theorem dX11_soundings_37 : decode cX11_soundings 37 = .ok (.ireturn, 1) := by decide +kernel
theorem dX11_ofPlace_0 : decode cX11_ofPlace 0 = .ok (.iload_n 2, 1) := by decide +kernel
theorem dX11_ofPlace_1 : decode cX11_ofPlace 1 = .ok (.ifCond .ne 12, 3) := by decide +kernel
theorem dX11_ofPlace_4 : decode cX11_ofPlace 4 = .ok (.aload_n 0, 1) := by decide +kernel
theorem dX11_ofPlace_5 : decode cX11_ofPlace 5 = .ok (.getfield 26, 3) := by decide +kernel
theorem dX11_ofPlace_8 : decode cX11_ofPlace 8 = .ok (.iload_n 1, 1) := by decide +kernel
theorem dX11_ofPlace_9 : decode cX11_ofPlace 9 = .ok (.iaload, 1) := by decide +kernel
theorem dX11_ofPlace_10 : decode cX11_ofPlace 10 = .ok (.goto 21, 3) := by decide +kernel
theorem dX11_ofPlace_13 : decode cX11_ofPlace 13 = .ok (.iload_n 2, 1) := by decide +kernel
theorem dX11_ofPlace_14 : decode cX11_ofPlace 14 = .ok (.iconst 1, 1) := by decide +kernel
theorem dX11_ofPlace_15 : decode cX11_ofPlace 15 = .ok (.if_icmp .ne 11, 3) := by decide +kernel
theorem dX11_ofPlace_18 : decode cX11_ofPlace 18 = .ok (.aload_n 0, 1) := by decide +kernel
theorem dX11_ofPlace_19 : decode cX11_ofPlace 19 = .ok (.iload_n 1, 1) := by decide +kernel
theorem dX11_ofPlace_20 : decode cX11_ofPlace 20 = .ok (.invokevirtual 146, 3) := by decide +kernel
theorem dX11_ofPlace_23 : decode cX11_ofPlace 23 = .ok (.goto 8, 3) := by decide +kernel
theorem dX11_ofPlace_26 : decode cX11_ofPlace 26 = .ok (.aload_n 0, 1) := by decide +kernel
theorem dX11_ofPlace_27 : decode cX11_ofPlace 27 = .ok (.iload_n 1, 1) := by decide +kernel
theorem dX11_ofPlace_28 : decode cX11_ofPlace 28 = .ok (.invokevirtual 149, 3) := by decide +kernel
theorem dX11_ofPlace_31 : decode cX11_ofPlace 31 = .ok (.ireturn, 1) := by decide +kernel
theorem dX11_place_0 : decode cX11_place 0 = .ok (.aload_n 0, 1) := by decide +kernel
theorem dX11_place_1 : decode cX11_place 1 = .ok (.iload_n 1, 1) := by decide +kernel
theorem dX11_place_2 : decode cX11_place 2 = .ok (.invokevirtual 125, 3) := by decide +kernel
theorem dX11_place_5 : decode cX11_place 5 = .ok (.ifCond .eq 29, 3) := by decide +kernel
theorem dX11_place_8 : decode cX11_place 8 = .ok (.iload_n 2, 1) := by decide +kernel
theorem dX11_place_9 : decode cX11_place 9 = .ok (.i2l, 1) := by decide +kernel
theorem dX11_place_10 : decode cX11_place 10 = .ok (.lconst 0, 1) := by decide +kernel
theorem dX11_place_11 : decode cX11_place 11 = .ok (.ldc2_w 152, 3) := by decide +kernel
theorem dX11_place_14 : decode cX11_place 14 = .ok (.invokestatic 76, 3) := by decide +kernel
theorem dX11_place_17 : decode cX11_place 17 = .ok (.ifCond .eq 17, 3) := by decide +kernel
theorem dX11_place_20 : decode cX11_place 20 = .ok (.aload_n 0, 1) := by decide +kernel
theorem dX11_place_21 : decode cX11_place 21 = .ok (.aload_n 0, 1) := by decide +kernel
theorem dX11_place_22 : decode cX11_place 22 = .ok (.iload_n 1, 1) := by decide +kernel
theorem dX11_place_23 : decode cX11_place 23 = .ok (.iload_n 2, 1) := by decide +kernel
theorem dX11_place_24 : decode cX11_place 24 = .ok (.invokevirtual 154, 3) := by decide +kernel
theorem dX11_place_27 : decode cX11_place 27 = .ok (.iconst 1, 1) := by decide +kernel
theorem dX11_place_28 : decode cX11_place 28 = .ok (.invokevirtual 84, 3) := by decide +kernel
theorem dX11_place_31 : decode cX11_place 31 = .ok (.goto 4, 3) := by decide +kernel
theorem dX11_place_34 : decode cX11_place 34 = .ok (.iconst (-1), 1) := by decide +kernel
theorem dX11_place_35 : decode cX11_place 35 = .ok (.ireturn, 1) := by decide +kernel
theorem dX11_note_0 : decode cX11_note 0 = .ok (.aload_n 0, 1) := by decide +kernel
theorem dX11_note_1 : decode cX11_note 1 = .ok (.iload_n 1, 1) := by decide +kernel
theorem dX11_note_2 : decode cX11_note 2 = .ok (.invokevirtual 157, 3) := by decide +kernel
theorem dX11_note_5 : decode cX11_note 5 = .ok (.ifCond .eq 24, 3) := by decide +kernel
theorem dX11_note_8 : decode cX11_note 8 = .ok (.aload_n 0, 1) := by decide +kernel
theorem dX11_note_9 : decode cX11_note 9 = .ok (.iload_n 2, 1) := by decide +kernel
theorem dX11_note_10 : decode cX11_note 10 = .ok (.invokevirtual 125, 3) := by decide +kernel
theorem dX11_note_13 : decode cX11_note 13 = .ok (.ifCond .eq 16, 3) := by decide +kernel
theorem dX11_note_16 : decode cX11_note 16 = .ok (.aload_n 0, 1) := by decide +kernel
theorem dX11_note_17 : decode cX11_note 17 = .ok (.getfield 29, 3) := by decide +kernel
theorem dX11_note_20 : decode cX11_note 20 = .ok (.iconst 4, 1) := by decide +kernel
theorem dX11_note_21 : decode cX11_note 21 = .ok (.iload_n 2, 1) := by decide +kernel
theorem dX11_note_22 : decode cX11_note 22 = .ok (.imul, 1) := by decide +kernel
theorem dX11_note_23 : decode cX11_note 23 = .ok (.iload_n 1, 1) := by decide +kernel
theorem dX11_note_24 : decode cX11_note 24 = .ok (.iadd, 1) := by decide +kernel
theorem dX11_note_25 : decode cX11_note 25 = .ok (.iaload, 1) := by decide +kernel
theorem dX11_note_26 : decode cX11_note 26 = .ok (.goto 4, 3) := by decide +kernel
theorem dX11_note_29 : decode cX11_note 29 = .ok (.iconst (-1), 1) := by decide +kernel
theorem dX11_note_30 : decode cX11_note 30 = .ok (.ireturn, 1) := by decide +kernel
theorem dX11_is_0 : decode cX11_is 0 = .ok (.aload_n 0, 1) := by decide +kernel
theorem dX11_is_1 : decode cX11_is 1 = .ok (.getfield 26, 3) := by decide +kernel
theorem dX11_is_4 : decode cX11_is 4 = .ok (.iload_n 1, 1) := by decide +kernel
theorem dX11_is_5 : decode cX11_is 5 = .ok (.iaload, 1) := by decide +kernel
theorem dX11_is_6 : decode cX11_is 6 = .ok (.iload_n 2, 1) := by decide +kernel
theorem dX11_is_7 : decode cX11_is 7 = .ok (.if_icmp .eq 33, 3) := by decide +kernel
theorem dX11_is_10 : decode cX11_is 10 = .ok (.iload_n 2, 1) := by decide +kernel
theorem dX11_is_11 : decode cX11_is 11 = .ok (.iconst 1, 1) := by decide +kernel
theorem dX11_is_12 : decode cX11_is 12 = .ok (.if_icmp .ne 13, 3) := by decide +kernel
theorem dX11_is_15 : decode cX11_is 15 = .ok (.aload_n 0, 1) := by decide +kernel
theorem dX11_is_16 : decode cX11_is 16 = .ok (.getfield 26, 3) := by decide +kernel
theorem dX11_is_19 : decode cX11_is 19 = .ok (.iload_n 1, 1) := by decide +kernel
theorem dX11_is_20 : decode cX11_is 20 = .ok (.iaload, 1) := by decide +kernel
theorem dX11_is_21 : decode cX11_is 21 = .ok (.iconst 3, 1) := by decide +kernel
theorem dX11_is_22 : decode cX11_is 22 = .ok (.if_icmp .eq 18, 3) := by decide +kernel
theorem dX11_is_25 : decode cX11_is 25 = .ok (.iload_n 2, 1) := by decide +kernel
theorem dX11_is_26 : decode cX11_is 26 = .ok (.iconst 2, 1) := by decide +kernel
theorem dX11_is_27 : decode cX11_is 27 = .ok (.if_icmp .ne 17, 3) := by decide +kernel
theorem dX11_is_30 : decode cX11_is 30 = .ok (.aload_n 0, 1) := by decide +kernel
theorem dX11_is_31 : decode cX11_is 31 = .ok (.getfield 26, 3) := by decide +kernel
theorem dX11_is_34 : decode cX11_is 34 = .ok (.iload_n 1, 1) := by decide +kernel
theorem dX11_is_35 : decode cX11_is 35 = .ok (.iaload, 1) := by decide +kernel
theorem dX11_is_36 : decode cX11_is 36 = .ok (.iconst 4, 1) := by decide +kernel
theorem dX11_is_37 : decode cX11_is 37 = .ok (.if_icmp .ne 7, 3) := by decide +kernel
theorem dX11_is_40 : decode cX11_is 40 = .ok (.iconst 1, 1) := by decide +kernel
theorem dX11_is_41 : decode cX11_is 41 = .ok (.goto 4, 3) := by decide +kernel
theorem dX11_is_44 : decode cX11_is 44 = .ok (.iconst 0, 1) := by decide +kernel
theorem dX11_is_45 : decode cX11_is 45 = .ok (.ireturn, 1) := by decide +kernel
theorem dX11_longs_0 : decode cX11_longs 0 = .ok (.iconst 0, 1) := by decide +kernel
theorem dX11_longs_1 : decode cX11_longs 1 = .ok (.istore_n 2, 1) := by decide +kernel
theorem dX11_longs_2 : decode cX11_longs 2 = .ok (.iconst 0, 1) := by decide +kernel
theorem dX11_longs_3 : decode cX11_longs 3 = .ok (.istore_n 3, 1) := by decide +kernel
theorem dX11_longs_4 : decode cX11_longs 4 = .ok (.iload_n 3, 1) := by decide +kernel
theorem dX11_longs_5 : decode cX11_longs 5 = .ok (.iload_n 1, 1) := by decide +kernel
theorem dX11_longs_6 : decode cX11_longs 6 = .ok (.if_icmp .ge 26, 3) := by decide +kernel
theorem dX11_longs_9 : decode cX11_longs 9 = .ok (.iload_n 2, 1) := by decide +kernel
theorem dX11_longs_10 : decode cX11_longs 10 = .ok (.aload_n 0, 1) := by decide +kernel
theorem dX11_longs_11 : decode cX11_longs 11 = .ok (.iload_n 3, 1) := by decide +kernel
theorem dX11_longs_12 : decode cX11_longs 12 = .ok (.iconst 2, 1) := by decide +kernel
theorem dX11_longs_13 : decode cX11_longs 13 = .ok (.invokevirtual 160, 3) := by decide +kernel
theorem dX11_longs_16 : decode cX11_longs 16 = .ok (.ifCond .eq 7, 3) := by decide +kernel
theorem dX11_longs_19 : decode cX11_longs 19 = .ok (.iconst 1, 1) := by decide +kernel
theorem dX11_longs_20 : decode cX11_longs 20 = .ok (.goto 4, 3) := by decide +kernel
theorem dX11_longs_23 : decode cX11_longs 23 = .ok (.iconst 0, 1) := by decide +kernel
theorem dX11_longs_24 : decode cX11_longs 24 = .ok (.iadd, 1) := by decide +kernel
theorem dX11_longs_25 : decode cX11_longs 25 = .ok (.istore_n 2, 1) := by decide +kernel
theorem dX11_longs_26 : decode cX11_longs 26 = .ok (.iinc 3 1, 3) := by decide +kernel
theorem dX11_longs_29 : decode cX11_longs 29 = .ok (.goto (-25), 3) := by decide +kernel
theorem dX11_longs_32 : decode cX11_longs 32 = .ok (.iload_n 2, 1) := by decide +kernel
theorem dX11_longs_33 : decode cX11_longs 33 = .ok (.ireturn, 1) := by decide +kernel
theorem dX11_letters_0 : decode cX11_letters 0 = .ok (.iconst 0, 1) := by decide +kernel
theorem dX11_letters_1 : decode cX11_letters 1 = .ok (.istore_n 2, 1) := by decide +kernel
theorem dX11_letters_2 : decode cX11_letters 2 = .ok (.iconst 0, 1) := by decide +kernel
theorem dX11_letters_3 : decode cX11_letters 3 = .ok (.istore_n 3, 1) := by decide +kernel
theorem dX11_letters_4 : decode cX11_letters 4 = .ok (.iload_n 3, 1) := by decide +kernel
theorem dX11_letters_5 : decode cX11_letters 5 = .ok (.iload_n 1, 1) := by decide +kernel
theorem dX11_letters_6 : decode cX11_letters 6 = .ok (.if_icmp .ge 27, 3) := by decide +kernel
theorem dX11_letters_9 : decode cX11_letters 9 = .ok (.iload_n 2, 1) := by decide +kernel
theorem dX11_letters_10 : decode cX11_letters 10 = .ok (.aload_n 0, 1) := by decide +kernel
theorem dX11_letters_11 : decode cX11_letters 11 = .ok (.getfield 26, 3) := by decide +kernel
theorem dX11_letters_14 : decode cX11_letters 14 = .ok (.iload_n 3, 1) := by decide +kernel
theorem dX11_letters_15 : decode cX11_letters 15 = .ok (.iaload, 1) := by decide +kernel
theorem dX11_letters_16 : decode cX11_letters 16 = .ok (.iconst 3, 1) := by decide +kernel
theorem dX11_letters_17 : decode cX11_letters 17 = .ok (.if_icmp .ne 7, 3) := by decide +kernel
theorem dX11_letters_20 : decode cX11_letters 20 = .ok (.iconst 1, 1) := by decide +kernel
theorem dX11_letters_21 : decode cX11_letters 21 = .ok (.goto 4, 3) := by decide +kernel
theorem dX11_letters_24 : decode cX11_letters 24 = .ok (.iconst 0, 1) := by decide +kernel
theorem dX11_letters_25 : decode cX11_letters 25 = .ok (.iadd, 1) := by decide +kernel
theorem dX11_letters_26 : decode cX11_letters 26 = .ok (.istore_n 2, 1) := by decide +kernel
theorem dX11_letters_27 : decode cX11_letters 27 = .ok (.iinc 3 1, 3) := by decide +kernel
theorem dX11_letters_30 : decode cX11_letters 30 = .ok (.goto (-26), 3) := by decide +kernel
theorem dX11_letters_33 : decode cX11_letters 33 = .ok (.iload_n 2, 1) := by decide +kernel
theorem dX11_letters_34 : decode cX11_letters 34 = .ok (.ireturn, 1) := by decide +kernel
theorem dX11_likeAhead_0 : decode cX11_likeAhead 0 = .ok (.iconst 0, 1) := by decide +kernel
theorem dX11_likeAhead_1 : decode cX11_likeAhead 1 = .ok (.istore_n 2, 1) := by decide +kernel
theorem dX11_likeAhead_2 : decode cX11_likeAhead 2 = .ok (.iconst 0, 1) := by decide +kernel
theorem dX11_likeAhead_3 : decode cX11_likeAhead 3 = .ok (.istore_n 3, 1) := by decide +kernel
theorem dX11_likeAhead_4 : decode cX11_likeAhead 4 = .ok (.iload_n 3, 1) := by decide +kernel
theorem dX11_likeAhead_5 : decode cX11_likeAhead 5 = .ok (.aload_n 0, 1) := by decide +kernel
theorem dX11_likeAhead_6 : decode cX11_likeAhead 6 = .ok (.getfield 116, 3) := by decide +kernel
theorem dX11_likeAhead_9 : decode cX11_likeAhead 9 = .ok (.if_icmp .ge 48, 3) := by decide +kernel
theorem dX11_likeAhead_12 : decode cX11_likeAhead 12 = .ok (.iload_n 1, 1) := by decide +kernel
theorem dX11_likeAhead_13 : decode cX11_likeAhead 13 = .ok (.ifCond .le 44, 3) := by decide +kernel
theorem dX11_likeAhead_16 : decode cX11_likeAhead 16 = .ok (.iload_n 2, 1) := by decide +kernel
theorem dX11_likeAhead_17 : decode cX11_likeAhead 17 = .ok (.aload_n 0, 1) := by decide +kernel
theorem dX11_likeAhead_18 : decode cX11_likeAhead 18 = .ok (.iload_n 3, 1) := by decide +kernel
theorem dX11_likeAhead_19 : decode cX11_likeAhead 19 = .ok (.iload_n 1, 1) := by decide +kernel
theorem dX11_likeAhead_20 : decode cX11_likeAhead 20 = .ok (.iconst 0, 1) := by decide +kernel
theorem dX11_likeAhead_21 : decode cX11_likeAhead 21 = .ok (.invokevirtual 129, 3) := by decide +kernel
theorem dX11_likeAhead_24 : decode cX11_likeAhead 24 = .ok (.ifCond .lt 24, 3) := by decide +kernel
theorem dX11_likeAhead_27 : decode cX11_likeAhead 27 = .ok (.aload_n 0, 1) := by decide +kernel
theorem dX11_likeAhead_28 : decode cX11_likeAhead 28 = .ok (.iload_n 3, 1) := by decide +kernel
theorem dX11_likeAhead_29 : decode cX11_likeAhead 29 = .ok (.iload_n 1, 1) := by decide +kernel
theorem dX11_likeAhead_30 : decode cX11_likeAhead 30 = .ok (.iconst 0, 1) := by decide +kernel
theorem dX11_likeAhead_31 : decode cX11_likeAhead 31 = .ok (.invokevirtual 129, 3) := by decide +kernel
theorem dX11_likeAhead_34 : decode cX11_likeAhead 34 = .ok (.aload_n 0, 1) := by decide +kernel
theorem dX11_likeAhead_35 : decode cX11_likeAhead 35 = .ok (.iload_n 3, 1) := by decide +kernel
theorem dX11_likeAhead_36 : decode cX11_likeAhead 36 = .ok (.iload_n 1, 1) := by decide +kernel
theorem dX11_likeAhead_37 : decode cX11_likeAhead 37 = .ok (.iconst (-1), 1) := by decide +kernel
theorem dX11_likeAhead_38 : decode cX11_likeAhead 38 = .ok (.invokevirtual 129, 3) := by decide +kernel
theorem dX11_likeAhead_41 : decode cX11_likeAhead 41 = .ok (.if_icmp .ne 7, 3) := by decide +kernel
theorem dX11_likeAhead_44 : decode cX11_likeAhead 44 = .ok (.iconst 1, 1) := by decide +kernel
theorem dX11_likeAhead_45 : decode cX11_likeAhead 45 = .ok (.goto 4, 3) := by decide +kernel
theorem dX11_likeAhead_48 : decode cX11_likeAhead 48 = .ok (.iconst 0, 1) := by decide +kernel
theorem dX11_likeAhead_49 : decode cX11_likeAhead 49 = .ok (.iadd, 1) := by decide +kernel
theorem dX11_likeAhead_50 : decode cX11_likeAhead 50 = .ok (.istore_n 2, 1) := by decide +kernel
theorem dX11_likeAhead_51 : decode cX11_likeAhead 51 = .ok (.iinc 3 1, 3) := by decide +kernel
theorem dX11_likeAhead_54 : decode cX11_likeAhead 54 = .ok (.goto (-50), 3) := by decide +kernel
theorem dX11_likeAhead_57 : decode cX11_likeAhead 57 = .ok (.iload_n 2, 1) := by decide +kernel
theorem dX11_likeAhead_58 : decode cX11_likeAhead 58 = .ok (.ireturn, 1) := by decide +kernel
theorem dX11_mark_0 : decode cX11_mark 0 = .ok (.aload_n 0, 1) := by decide +kernel
theorem dX11_mark_1 : decode cX11_mark 1 = .ok (.iload_n 1, 1) := by decide +kernel
theorem dX11_mark_2 : decode cX11_mark 2 = .ok (.invokevirtual 125, 3) := by decide +kernel
theorem dX11_mark_5 : decode cX11_mark 5 = .ok (.ifCond .eq 15, 3) := by decide +kernel
theorem dX11_mark_8 : decode cX11_mark 8 = .ok (.iload_n 2, 1) := by decide +kernel
theorem dX11_mark_9 : decode cX11_mark 9 = .ok (.i2l, 1) := by decide +kernel
theorem dX11_mark_10 : decode cX11_mark 10 = .ok (.lconst 1, 1) := by decide +kernel
theorem dX11_mark_11 : decode cX11_mark 11 = .ok (.ldc2_w 74, 3) := by decide +kernel
theorem dX11_mark_14 : decode cX11_mark 14 = .ok (.invokestatic 76, 3) := by decide +kernel
theorem dX11_mark_17 : decode cX11_mark 17 = .ok (.ifCond .ne 5, 3) := by decide +kernel
theorem dX11_mark_20 : decode cX11_mark 20 = .ok (.iconst (-1), 1) := by decide +kernel
theorem dX11_mark_21 : decode cX11_mark 21 = .ok (.ireturn, 1) := by decide +kernel
theorem dX11_mark_22 : decode cX11_mark 22 = .ok (.aload_n 0, 1) := by decide +kernel
theorem dX11_mark_23 : decode cX11_mark 23 = .ok (.iload_n 1, 1) := by decide +kernel
theorem dX11_mark_24 : decode cX11_mark 24 = .ok (.iload_n 2, 1) := by decide +kernel
theorem dX11_mark_25 : decode cX11_mark 25 = .ok (.invokevirtual 160, 3) := by decide +kernel
theorem dX11_mark_28 : decode cX11_mark 28 = .ok (.ifCond .ne 9, 3) := by decide +kernel
theorem dX11_mark_31 : decode cX11_mark 31 = .ok (.aload_n 0, 1) := by decide +kernel
theorem dX11_mark_32 : decode cX11_mark 32 = .ok (.iconst 3, 1) := by decide +kernel
theorem dX11_mark_33 : decode cX11_mark 33 = .ok (.invokevirtual 80, 3) := by decide +kernel
theorem dX11_mark_36 : decode cX11_mark 36 = .ok (.ireturn, 1) := by decide +kernel
theorem dX11_mark_37 : decode cX11_mark 37 = .ok (.aload_n 0, 1) := by decide +kernel
theorem dX11_mark_38 : decode cX11_mark 38 = .ok (.invokevirtual 140, 3) := by decide +kernel
theorem dX11_mark_41 : decode cX11_mark 41 = .ok (.iload_n 2, 1) := by decide +kernel
theorem dX11_mark_42 : decode cX11_mark 42 = .ok (.iconst 1, 1) := by decide +kernel
theorem dX11_mark_43 : decode cX11_mark 43 = .ok (.if_icmp .ne 20, 3) := by decide +kernel
theorem dX11_mark_46 : decode cX11_mark 46 = .ok (.aload_n 0, 1) := by decide +kernel
theorem dX11_mark_47 : decode cX11_mark 47 = .ok (.iload_n 1, 1) := by decide +kernel
theorem dX11_mark_48 : decode cX11_mark 48 = .ok (.iconst 1, 1) := by decide +kernel
theorem dX11_mark_49 : decode cX11_mark 49 = .ok (.invokevirtual 137, 3) := by decide +kernel
theorem dX11_mark_52 : decode cX11_mark 52 = .ok (.ifCond .ne 7, 3) := by decide +kernel
theorem dX11_mark_55 : decode cX11_mark 55 = .ok (.iconst 1, 1) := by decide +kernel
theorem dX11_mark_56 : decode cX11_mark 56 = .ok (.goto 57, 3) := by decide +kernel
theorem dX11_mark_59 : decode cX11_mark 59 = .ok (.iconst 0, 1) := by decide +kernel
theorem dX11_mark_60 : decode cX11_mark 60 = .ok (.goto 53, 3) := by decide +kernel
theorem dX11_mark_63 : decode cX11_mark 63 = .ok (.iload_n 2, 1) := by decide +kernel
theorem dX11_mark_64 : decode cX11_mark 64 = .ok (.iconst 2, 1) := by decide +kernel
theorem dX11_mark_65 : decode cX11_mark 65 = .ok (.if_icmp .ne 13, 3) := by decide +kernel
theorem dX11_mark_68 : decode cX11_mark 68 = .ok (.iload_n 1, 1) := by decide +kernel
theorem dX11_mark_69 : decode cX11_mark 69 = .ok (.aload_n 0, 1) := by decide +kernel
theorem dX11_mark_70 : decode cX11_mark 70 = .ok (.iload_n 1, 1) := by decide +kernel
theorem dX11_mark_71 : decode cX11_mark 71 = .ok (.invokevirtual 164, 3) := by decide +kernel
theorem dX11_mark_74 : decode cX11_mark 74 = .ok (.isub, 1) := by decide +kernel
theorem dX11_mark_75 : decode cX11_mark 75 = .ok (.goto 38, 3) := by decide +kernel
theorem dX11_mark_78 : decode cX11_mark 78 = .ok (.iload_n 2, 1) := by decide +kernel
theorem dX11_mark_79 : decode cX11_mark 79 = .ok (.iconst 3, 1) := by decide +kernel
theorem dX11_mark_80 : decode cX11_mark 80 = .ok (.if_icmp .ne 11, 3) := by decide +kernel
theorem dX11_mark_83 : decode cX11_mark 83 = .ok (.aload_n 0, 1) := by decide +kernel
theorem dX11_mark_84 : decode cX11_mark 84 = .ok (.iload_n 1, 1) := by decide +kernel
theorem dX11_mark_85 : decode cX11_mark 85 = .ok (.invokevirtual 167, 3) := by decide +kernel
theorem dX11_mark_88 : decode cX11_mark 88 = .ok (.goto 25, 3) := by decide +kernel
theorem dX11_mark_91 : decode cX11_mark 91 = .ok (.iload_n 2, 1) := by decide +kernel
theorem dX11_mark_92 : decode cX11_mark 92 = .ok (.iconst 4, 1) := by decide +kernel
theorem dX11_mark_93 : decode cX11_mark 93 = .ok (.if_icmp .ne 11, 3) := by decide +kernel
theorem dX11_mark_96 : decode cX11_mark 96 = .ok (.aload_n 0, 1) := by decide +kernel
theorem dX11_mark_97 : decode cX11_mark 97 = .ok (.iload_n 1, 1) := by decide +kernel
theorem dX11_mark_98 : decode cX11_mark 98 = .ok (.invokevirtual 170, 3) := by decide +kernel
theorem dX11_mark_101 : decode cX11_mark 101 = .ok (.goto 12, 3) := by decide +kernel
theorem dX11_mark_104 : decode cX11_mark 104 = .ok (.aload_n 0, 1) := by decide +kernel
theorem dX11_mark_105 : decode cX11_mark 105 = .ok (.iload_n 1, 1) := by decide +kernel
theorem dX11_mark_106 : decode cX11_mark 106 = .ok (.iconst 0, 1) := by decide +kernel
theorem dX11_mark_107 : decode cX11_mark 107 = .ok (.invokevirtual 137, 3) := by decide +kernel
theorem dX11_mark_110 : decode cX11_mark 110 = .ok (.invokestatic 173, 3) := by decide +kernel
theorem dX11_mark_113 : decode cX11_mark 113 = .ok (.ireturn, 1) := by decide +kernel
theorem dX11_again_0 : decode cX11_again 0 = .ok (.aload_n 0, 1) := by decide +kernel
theorem dX11_again_1 : decode cX11_again 1 = .ok (.iconst 0, 1) := by decide +kernel
theorem dX11_again_2 : decode cX11_again 2 = .ok (.putfield 176, 3) := by decide +kernel
theorem dX11_again_5 : decode cX11_again 5 = .ok (.aload_n 0, 1) := by decide +kernel
theorem dX11_again_6 : decode cX11_again 6 = .ok (.iconst 0, 1) := by decide +kernel
theorem dX11_again_7 : decode cX11_again 7 = .ok (.putfield 179, 3) := by decide +kernel
theorem dX11_again_10 : decode cX11_again 10 = .ok (.aload_n 0, 1) := by decide +kernel
theorem dX11_again_11 : decode cX11_again 11 = .ok (.iconst 0, 1) := by decide +kernel
theorem dX11_again_12 : decode cX11_again 12 = .ok (.putfield 182, 3) := by decide +kernel
theorem dX11_again_15 : decode cX11_again 15 = .ok (.iconst 0, 1) := by decide +kernel
theorem dX11_again_16 : decode cX11_again 16 = .ok (.istore_n 1, 1) := by decide +kernel
theorem dX11_again_17 : decode cX11_again 17 = .ok (.iload_n 1, 1) := by decide +kernel
theorem dX11_again_18 : decode cX11_again 18 = .ok (.iconst 4, 1) := by decide +kernel
theorem dX11_again_19 : decode cX11_again 19 = .ok (.if_icmp .ge 16, 3) := by decide +kernel
theorem dX11_again_22 : decode cX11_again 22 = .ok (.aload_n 0, 1) := by decide +kernel
theorem dX11_again_23 : decode cX11_again 23 = .ok (.getfield 44, 3) := by decide +kernel
theorem dX11_again_26 : decode cX11_again 26 = .ok (.iload_n 1, 1) := by decide +kernel
theorem dX11_again_27 : decode cX11_again 27 = .ok (.iconst 0, 1) := by decide +kernel
theorem dX11_again_28 : decode cX11_again 28 = .ok (.iastore, 1) := by decide +kernel
theorem dX11_again_29 : decode cX11_again 29 = .ok (.iinc 1 1, 3) := by decide +kernel
theorem dX11_again_32 : decode cX11_again 32 = .ok (.goto (-15), 3) := by decide +kernel
theorem dX11_again_35 : decode cX11_again 35 = .ok (.iconst 0, 1) := by decide +kernel
theorem dX11_again_36 : decode cX11_again 36 = .ok (.istore_n 1, 1) := by decide +kernel
theorem dX11_again_37 : decode cX11_again 37 = .ok (.iload_n 1, 1) := by decide +kernel
theorem dX11_again_38 : decode cX11_again 38 = .ok (.aload_n 0, 1) := by decide +kernel
theorem dX11_again_39 : decode cX11_again 39 = .ok (.getfield 38, 3) := by decide +kernel
theorem dX11_again_42 : decode cX11_again 42 = .ok (.iconst 0, 1) := by decide +kernel
theorem dX11_again_43 : decode cX11_again 43 = .ok (.iaload, 1) := by decide +kernel
theorem dX11_again_44 : decode cX11_again 44 = .ok (.if_icmp .ge 14, 3) := by decide +kernel
theorem dX11_again_47 : decode cX11_again 47 = .ok (.aload_n 0, 1) := by decide +kernel
theorem dX11_again_48 : decode cX11_again 48 = .ok (.iload_n 1, 1) := by decide +kernel
theorem dX11_again_49 : decode cX11_again 49 = .ok (.invokevirtual 185, 3) := by decide +kernel
theorem dX11_again_52 : decode cX11_again 52 = .ok (.iinc 1 1, 3) := by decide +kernel
theorem dX11_again_55 : decode cX11_again 55 = .ok (.goto (-18), 3) := by decide +kernel
theorem dX11_again_58 : decode cX11_again 58 = .ok (.return_, 1) := by decide +kernel
theorem dX11_goes_0 : decode cX11_goes 0 = .ok (.aload_n 0, 1) := by decide +kernel
theorem dX11_goes_1 : decode cX11_goes 1 = .ok (.getfield 41, 3) := by decide +kernel
theorem dX11_goes_4 : decode cX11_goes 4 = .ok (.iconst 3, 1) := by decide +kernel
theorem dX11_goes_5 : decode cX11_goes 5 = .ok (.iload_n 1, 1) := by decide +kernel
theorem dX11_goes_6 : decode cX11_goes 6 = .ok (.imul, 1) := by decide +kernel
theorem dX11_goes_7 : decode cX11_goes 7 = .ok (.iconst 1, 1) := by decide +kernel
theorem dX11_goes_8 : decode cX11_goes 8 = .ok (.iadd, 1) := by decide +kernel
theorem dX11_goes_9 : decode cX11_goes 9 = .ok (.iaload, 1) := by decide +kernel
theorem dX11_goes_10 : decode cX11_goes 10 = .ok (.istore_n 2, 1) := by decide +kernel
theorem dX11_goes_11 : decode cX11_goes 11 = .ok (.aload_n 0, 1) := by decide +kernel
theorem dX11_goes_12 : decode cX11_goes 12 = .ok (.getfield 41, 3) := by decide +kernel
theorem dX11_goes_15 : decode cX11_goes 15 = .ok (.iconst 3, 1) := by decide +kernel
theorem dX11_goes_16 : decode cX11_goes 16 = .ok (.iload_n 1, 1) := by decide +kernel
theorem dX11_goes_17 : decode cX11_goes 17 = .ok (.imul, 1) := by decide +kernel
theorem dX11_goes_18 : decode cX11_goes 18 = .ok (.iconst 2, 1) := by decide +kernel
theorem dX11_goes_19 : decode cX11_goes 19 = .ok (.iadd, 1) := by decide +kernel
theorem dX11_goes_20 : decode cX11_goes 20 = .ok (.iaload, 1) := by decide +kernel
theorem dX11_goes_21 : decode cX11_goes 21 = .ok (.istore_n 3, 1) := by decide +kernel
theorem dX11_goes_22 : decode cX11_goes 22 = .ok (.aload_n 0, 1) := by decide +kernel
theorem dX11_goes_23 : decode cX11_goes 23 = .ok (.getfield 41, 3) := by decide +kernel
theorem dX11_goes_26 : decode cX11_goes 26 = .ok (.iconst 3, 1) := by decide +kernel
theorem dX11_goes_27 : decode cX11_goes 27 = .ok (.iload_n 1, 1) := by decide +kernel
theorem dX11_goes_28 : decode cX11_goes 28 = .ok (.imul, 1) := by decide +kernel
theorem dX11_goes_29 : decode cX11_goes 29 = .ok (.iaload, 1) := by decide +kernel
theorem dX11_goes_30 : decode cX11_goes 30 = .ok (.tableswitch 98 0 2 #[26, 70, 83], 26) := by decide +kernel
theorem dX11_goes_56 : decode cX11_goes 56 = .ok (.aload_n 0, 1) := by decide +kernel
theorem dX11_goes_57 : decode cX11_goes 57 = .ok (.invokevirtual 189, 3) := by decide +kernel
theorem dX11_goes_60 : decode cX11_goes 60 = .ok (.aload_n 0, 1) := by decide +kernel
theorem dX11_goes_61 : decode cX11_goes 61 = .ok (.getfield 47, 3) := by decide +kernel
theorem dX11_goes_64 : decode cX11_goes 64 = .ok (.aload_n 0, 1) := by decide +kernel
theorem dX11_goes_65 : decode cX11_goes 65 = .ok (.getfield 182, 3) := by decide +kernel
theorem dX11_goes_68 : decode cX11_goes 68 = .ok (.aload_n 0, 1) := by decide +kernel
theorem dX11_goes_69 : decode cX11_goes 69 = .ok (.aload_n 0, 1) := by decide +kernel
theorem dX11_goes_70 : decode cX11_goes 70 = .ok (.getfield 176, 3) := by decide +kernel
theorem dX11_goes_73 : decode cX11_goes 73 = .ok (.invokevirtual 143, 3) := by decide +kernel
theorem dX11_goes_76 : decode cX11_goes 76 = .ok (.iastore, 1) := by decide +kernel
theorem dX11_goes_77 : decode cX11_goes 77 = .ok (.aload_n 0, 1) := by decide +kernel
theorem dX11_goes_78 : decode cX11_goes 78 = .ok (.dup, 1) := by decide +kernel
theorem dX11_goes_79 : decode cX11_goes 79 = .ok (.getfield 182, 3) := by decide +kernel
theorem dX11_goes_82 : decode cX11_goes 82 = .ok (.iconst 1, 1) := by decide +kernel
theorem dX11_goes_83 : decode cX11_goes 83 = .ok (.iadd, 1) := by decide +kernel
theorem dX11_goes_84 : decode cX11_goes 84 = .ok (.putfield 182, 3) := by decide +kernel
theorem dX11_goes_87 : decode cX11_goes 87 = .ok (.aload_n 0, 1) := by decide +kernel
theorem dX11_goes_88 : decode cX11_goes 88 = .ok (.dup, 1) := by decide +kernel
theorem dX11_goes_89 : decode cX11_goes 89 = .ok (.getfield 176, 3) := by decide +kernel
theorem dX11_goes_92 : decode cX11_goes 92 = .ok (.iconst 1, 1) := by decide +kernel
theorem dX11_goes_93 : decode cX11_goes 93 = .ok (.iadd, 1) := by decide +kernel
theorem dX11_goes_94 : decode cX11_goes 94 = .ok (.putfield 176, 3) := by decide +kernel
theorem dX11_goes_97 : decode cX11_goes 97 = .ok (.goto 69, 3) := by decide +kernel
theorem dX11_goes_100 : decode cX11_goes 100 = .ok (.aload_n 0, 1) := by decide +kernel
theorem dX11_goes_101 : decode cX11_goes 101 = .ok (.getfield 44, 3) := by decide +kernel
theorem dX11_goes_104 : decode cX11_goes 104 = .ok (.iload_n 2, 1) := by decide +kernel
theorem dX11_goes_105 : decode cX11_goes 105 = .ok (.dup2, 1) := by decide +kernel
theorem dX11_goes_106 : decode cX11_goes 106 = .ok (.iaload, 1) := by decide +kernel
theorem dX11_goes_107 : decode cX11_goes 107 = .ok (.iload_n 3, 1) := by decide +kernel
theorem dX11_goes_108 : decode cX11_goes 108 = .ok (.iadd, 1) := by decide +kernel
theorem dX11_goes_109 : decode cX11_goes 109 = .ok (.iastore, 1) := by decide +kernel
theorem dX11_goes_110 : decode cX11_goes 110 = .ok (.goto 56, 3) := by decide +kernel
theorem dX11_goes_113 : decode cX11_goes 113 = .ok (.aload_n 0, 1) := by decide +kernel
theorem dX11_goes_114 : decode cX11_goes 114 = .ok (.getfield 44, 3) := by decide +kernel
theorem dX11_goes_117 : decode cX11_goes 117 = .ok (.iload_n 2, 1) := by decide +kernel
theorem dX11_goes_118 : decode cX11_goes 118 = .ok (.aload_n 0, 1) := by decide +kernel
theorem dX11_goes_119 : decode cX11_goes 119 = .ok (.getfield 44, 3) := by decide +kernel
theorem dX11_goes_122 : decode cX11_goes 122 = .ok (.iload_n 3, 1) := by decide +kernel
theorem dX11_goes_123 : decode cX11_goes 123 = .ok (.iaload, 1) := by decide +kernel
theorem dX11_goes_124 : decode cX11_goes 124 = .ok (.iastore, 1) := by decide +kernel
theorem dX11_goes_125 : decode cX11_goes 125 = .ok (.goto 41, 3) := by decide +kernel
theorem dX11_goes_128 : decode cX11_goes 128 = .ok (.aload_n 0, 1) := by decide +kernel
theorem dX11_goes_129 : decode cX11_goes 129 = .ok (.iload_n 3, 1) := by decide +kernel
theorem dX11_goes_130 : decode cX11_goes 130 = .ok (.putfield 176, 3) := by decide +kernel
theorem dX11_goes_133 : decode cX11_goes 133 = .ok (.aload_n 0, 1) := by decide +kernel
theorem dX11_goes_134 : decode cX11_goes 134 = .ok (.iload_n 3, 1) := by decide +kernel
theorem dX11_goes_135 : decode cX11_goes 135 = .ok (.putfield 179, 3) := by decide +kernel
theorem dX11_goes_138 : decode cX11_goes 138 = .ok (.aload_n 0, 1) := by decide +kernel
theorem dX11_goes_139 : decode cX11_goes 139 = .ok (.iconst 0, 1) := by decide +kernel
theorem dX11_goes_140 : decode cX11_goes 140 = .ok (.putfield 182, 3) := by decide +kernel
theorem dX11_goes_143 : decode cX11_goes 143 = .ok (.iconst 0, 1) := by decide +kernel
theorem dX11_goes_144 : decode cX11_goes 144 = .ok (.istore 4, 2) := by decide +kernel
theorem dX11_goes_146 : decode cX11_goes 146 = .ok (.iload 4, 2) := by decide +kernel
theorem dX11_goes_148 : decode cX11_goes 148 = .ok (.iconst 4, 1) := by decide +kernel
theorem dX11_goes_149 : decode cX11_goes 149 = .ok (.if_icmp .ge 17, 3) := by decide +kernel
theorem dX11_goes_152 : decode cX11_goes 152 = .ok (.aload_n 0, 1) := by decide +kernel
theorem dX11_goes_153 : decode cX11_goes 153 = .ok (.getfield 44, 3) := by decide +kernel
theorem dX11_goes_156 : decode cX11_goes 156 = .ok (.iload 4, 2) := by decide +kernel
theorem dX11_goes_158 : decode cX11_goes 158 = .ok (.iconst 0, 1) := by decide +kernel
theorem dX11_goes_159 : decode cX11_goes 159 = .ok (.iastore, 1) := by decide +kernel
theorem dX11_goes_160 : decode cX11_goes 160 = .ok (.iinc 4 1, 3) := by decide +kernel
theorem dX11_goes_163 : decode cX11_goes 163 = .ok (.goto (-17), 3) := by decide +kernel
theorem dX11_goes_166 : decode cX11_goes 166 = .ok (.return_, 1) := by decide +kernel
theorem dX11_does_0 : decode cX11_does 0 = .ok (.aload_n 0, 1) := by decide +kernel
theorem dX11_does_1 : decode cX11_does 1 = .ok (.getfield 38, 3) := by decide +kernel
theorem dX11_does_4 : decode cX11_does 4 = .ok (.iconst 0, 1) := by decide +kernel
theorem dX11_does_5 : decode cX11_does 5 = .ok (.iaload, 1) := by decide +kernel
theorem dX11_does_6 : decode cX11_does 6 = .ok (.istore 4, 2) := by decide +kernel
theorem dX11_does_8 : decode cX11_does 8 = .ok (.aload_n 0, 1) := by decide +kernel
theorem dX11_does_9 : decode cX11_does 9 = .ok (.getfield 41, 3) := by decide +kernel
theorem dX11_does_12 : decode cX11_does 12 = .ok (.iconst 3, 1) := by decide +kernel
theorem dX11_does_13 : decode cX11_does 13 = .ok (.iload 4, 2) := by decide +kernel
theorem dX11_does_15 : decode cX11_does 15 = .ok (.imul, 1) := by decide +kernel
theorem dX11_does_16 : decode cX11_does 16 = .ok (.iload_n 1, 1) := by decide +kernel
theorem dX11_does_17 : decode cX11_does 17 = .ok (.iastore, 1) := by decide +kernel
theorem dX11_does_18 : decode cX11_does 18 = .ok (.aload_n 0, 1) := by decide +kernel
theorem dX11_does_19 : decode cX11_does 19 = .ok (.getfield 41, 3) := by decide +kernel
theorem dX11_does_22 : decode cX11_does 22 = .ok (.iconst 3, 1) := by decide +kernel
theorem dX11_does_23 : decode cX11_does 23 = .ok (.iload 4, 2) := by decide +kernel
theorem dX11_does_25 : decode cX11_does 25 = .ok (.imul, 1) := by decide +kernel
theorem dX11_does_26 : decode cX11_does 26 = .ok (.iconst 1, 1) := by decide +kernel
theorem dX11_does_27 : decode cX11_does 27 = .ok (.iadd, 1) := by decide +kernel
theorem dX11_does_28 : decode cX11_does 28 = .ok (.iload_n 2, 1) := by decide +kernel
theorem dX11_does_29 : decode cX11_does 29 = .ok (.iastore, 1) := by decide +kernel
theorem dX11_does_30 : decode cX11_does 30 = .ok (.aload_n 0, 1) := by decide +kernel
theorem dX11_does_31 : decode cX11_does 31 = .ok (.getfield 41, 3) := by decide +kernel
theorem dX11_does_34 : decode cX11_does 34 = .ok (.iconst 3, 1) := by decide +kernel
theorem dX11_does_35 : decode cX11_does 35 = .ok (.iload 4, 2) := by decide +kernel
theorem dX11_does_37 : decode cX11_does 37 = .ok (.imul, 1) := by decide +kernel
theorem dX11_does_38 : decode cX11_does 38 = .ok (.iconst 2, 1) := by decide +kernel
theorem dX11_does_39 : decode cX11_does 39 = .ok (.iadd, 1) := by decide +kernel
theorem dX11_does_40 : decode cX11_does 40 = .ok (.iload_n 3, 1) := by decide +kernel
theorem dX11_does_41 : decode cX11_does 41 = .ok (.iastore, 1) := by decide +kernel
theorem dX11_does_42 : decode cX11_does 42 = .ok (.aload_n 0, 1) := by decide +kernel
theorem dX11_does_43 : decode cX11_does 43 = .ok (.getfield 38, 3) := by decide +kernel
theorem dX11_does_46 : decode cX11_does 46 = .ok (.iconst 0, 1) := by decide +kernel
theorem dX11_does_47 : decode cX11_does 47 = .ok (.dup2, 1) := by decide +kernel
theorem dX11_does_48 : decode cX11_does 48 = .ok (.iaload, 1) := by decide +kernel
theorem dX11_does_49 : decode cX11_does 49 = .ok (.iconst 1, 1) := by decide +kernel
theorem dX11_does_50 : decode cX11_does 50 = .ok (.iadd, 1) := by decide +kernel
theorem dX11_does_51 : decode cX11_does 51 = .ok (.iastore, 1) := by decide +kernel
theorem dX11_does_52 : decode cX11_does 52 = .ok (.aload_n 0, 1) := by decide +kernel
theorem dX11_does_53 : decode cX11_does 53 = .ok (.iload 4, 2) := by decide +kernel
theorem dX11_does_55 : decode cX11_does 55 = .ok (.invokevirtual 185, 3) := by decide +kernel
theorem dX11_does_58 : decode cX11_does 58 = .ok (.return_, 1) := by decide +kernel
theorem dX11_isFull_0 : decode cX11_isFull 0 = .ok (.aload_n 0, 1) := by decide +kernel
theorem dX11_isFull_1 : decode cX11_isFull 1 = .ok (.getfield 38, 3) := by decide +kernel
theorem dX11_isFull_4 : decode cX11_isFull 4 = .ok (.iconst 0, 1) := by decide +kernel
theorem dX11_isFull_5 : decode cX11_isFull 5 = .ok (.iaload, 1) := by decide +kernel
theorem dX11_isFull_6 : decode cX11_isFull 6 = .ok (.bipush 40, 2) := by decide +kernel
theorem dX11_isFull_8 : decode cX11_isFull 8 = .ok (.if_icmp .ne 7, 3) := by decide +kernel
theorem dX11_isFull_11 : decode cX11_isFull 11 = .ok (.iconst 1, 1) := by decide +kernel
theorem dX11_isFull_12 : decode cX11_isFull 12 = .ok (.goto 4, 3) := by decide +kernel
theorem dX11_isFull_15 : decode cX11_isFull 15 = .ok (.iconst 0, 1) := by decide +kernel
theorem dX11_isFull_16 : decode cX11_isFull 16 = .ok (.ireturn, 1) := by decide +kernel
theorem dX11_play_0 : decode cX11_play 0 = .ok (.aload_n 0, 1) := by decide +kernel
theorem dX11_play_1 : decode cX11_play 1 = .ok (.getfield 176, 3) := by decide +kernel
theorem dX11_play_4 : decode cX11_play 4 = .ok (.aload_n 0, 1) := by decide +kernel
theorem dX11_play_5 : decode cX11_play 5 = .ok (.getfield 119, 3) := by decide +kernel
theorem dX11_play_8 : decode cX11_play 8 = .ok (.if_icmp .lt 6, 3) := by decide +kernel
theorem dX11_play_11 : decode cX11_play 11 = .ok (.bipush (-4), 2) := by decide +kernel
theorem dX11_play_13 : decode cX11_play 13 = .ok (.ireturn, 1) := by decide +kernel
theorem dX11_play_14 : decode cX11_play 14 = .ok (.aload_n 0, 1) := by decide +kernel
theorem dX11_play_15 : decode cX11_play 15 = .ok (.invokevirtual 192, 3) := by decide +kernel
theorem dX11_play_18 : decode cX11_play 18 = .ok (.ifCond .eq 6, 3) := by decide +kernel
theorem dX11_play_21 : decode cX11_play 21 = .ok (.bipush (-2), 2) := by decide +kernel
theorem dX11_play_23 : decode cX11_play 23 = .ok (.ireturn, 1) := by decide +kernel
theorem dX11_play_24 : decode cX11_play 24 = .ok (.aload_n 0, 1) := by decide +kernel
theorem dX11_play_25 : decode cX11_play 25 = .ok (.iconst 0, 1) := by decide +kernel
theorem dX11_play_26 : decode cX11_play 26 = .ok (.iconst 0, 1) := by decide +kernel
theorem dX11_play_27 : decode cX11_play 27 = .ok (.iconst 0, 1) := by decide +kernel
theorem dX11_play_28 : decode cX11_play 28 = .ok (.invokevirtual 196, 3) := by decide +kernel
theorem dX11_play_31 : decode cX11_play 31 = .ok (.aload_n 0, 1) := by decide +kernel
theorem dX11_play_32 : decode cX11_play 32 = .ok (.getfield 47, 3) := by decide +kernel
theorem dX11_play_35 : decode cX11_play 35 = .ok (.aload_n 0, 1) := by decide +kernel
theorem dX11_play_36 : decode cX11_play 36 = .ok (.getfield 182, 3) := by decide +kernel
theorem dX11_play_39 : decode cX11_play 39 = .ok (.iconst 1, 1) := by decide +kernel
theorem dX11_play_40 : decode cX11_play 40 = .ok (.isub, 1) := by decide +kernel
theorem dX11_play_41 : decode cX11_play 41 = .ok (.iaload, 1) := by decide +kernel
theorem dX11_play_42 : decode cX11_play 42 = .ok (.ireturn, 1) := by decide +kernel
theorem dX11_slip_0 : decode cX11_slip 0 = .ok (.aload_n 0, 1) := by decide +kernel
theorem dX11_slip_1 : decode cX11_slip 1 = .ok (.iload_n 1, 1) := by decide +kernel
theorem dX11_slip_2 : decode cX11_slip 2 = .ok (.invokevirtual 157, 3) := by decide +kernel
theorem dX11_slip_5 : decode cX11_slip 5 = .ok (.ifCond .eq 13, 3) := by decide +kernel
theorem dX11_slip_8 : decode cX11_slip 8 = .ok (.iload_n 2, 1) := by decide +kernel
theorem dX11_slip_9 : decode cX11_slip 9 = .ok (.iconst 1, 1) := by decide +kernel
theorem dX11_slip_10 : decode cX11_slip 10 = .ok (.if_icmp .eq 10, 3) := by decide +kernel
theorem dX11_slip_13 : decode cX11_slip 13 = .ok (.iload_n 2, 1) := by decide +kernel
theorem dX11_slip_14 : decode cX11_slip 14 = .ok (.iconst (-1), 1) := by decide +kernel
theorem dX11_slip_15 : decode cX11_slip 15 = .ok (.if_icmp .eq 5, 3) := by decide +kernel
theorem dX11_slip_18 : decode cX11_slip 18 = .ok (.iconst (-1), 1) := by decide +kernel
theorem dX11_slip_19 : decode cX11_slip 19 = .ok (.ireturn, 1) := by decide +kernel
theorem dX11_slip_20 : decode cX11_slip 20 = .ok (.aload_n 0, 1) := by decide +kernel
theorem dX11_slip_21 : decode cX11_slip 21 = .ok (.getfield 44, 3) := by decide +kernel
theorem dX11_slip_24 : decode cX11_slip 24 = .ok (.iload_n 1, 1) := by decide +kernel
theorem dX11_slip_25 : decode cX11_slip 25 = .ok (.iaload, 1) := by decide +kernel
theorem dX11_slip_26 : decode cX11_slip 26 = .ok (.iload_n 2, 1) := by decide +kernel
theorem dX11_slip_27 : decode cX11_slip 27 = .ok (.iadd, 1) := by decide +kernel
theorem dX11_slip_28 : decode cX11_slip 28 = .ok (.i2l, 1) := by decide +kernel
theorem dX11_slip_29 : decode cX11_slip 29 = .ok (.ldc2_w 200, 3) := by decide +kernel
theorem dX11_slip_32 : decode cX11_slip 32 = .ok (.ldc2_w 152, 3) := by decide +kernel
theorem dX11_slip_35 : decode cX11_slip 35 = .ok (.invokestatic 76, 3) := by decide +kernel
theorem dX11_slip_38 : decode cX11_slip 38 = .ok (.ifCond .ne 6, 3) := by decide +kernel
theorem dX11_slip_41 : decode cX11_slip 41 = .ok (.bipush (-4), 2) := by decide +kernel
theorem dX11_slip_43 : decode cX11_slip 43 = .ok (.ireturn, 1) := by decide +kernel
theorem dX11_slip_44 : decode cX11_slip 44 = .ok (.aload_n 0, 1) := by decide +kernel
theorem dX11_slip_45 : decode cX11_slip 45 = .ok (.invokevirtual 192, 3) := by decide +kernel
theorem dX11_slip_48 : decode cX11_slip 48 = .ok (.ifCond .eq 6, 3) := by decide +kernel
theorem dX11_slip_51 : decode cX11_slip 51 = .ok (.bipush (-2), 2) := by decide +kernel
theorem dX11_slip_53 : decode cX11_slip 53 = .ok (.ireturn, 1) := by decide +kernel
theorem dX11_slip_54 : decode cX11_slip 54 = .ok (.aload_n 0, 1) := by decide +kernel
theorem dX11_slip_55 : decode cX11_slip 55 = .ok (.iconst 1, 1) := by decide +kernel
theorem dX11_slip_56 : decode cX11_slip 56 = .ok (.iload_n 1, 1) := by decide +kernel
theorem dX11_slip_57 : decode cX11_slip 57 = .ok (.iload_n 2, 1) := by decide +kernel
theorem dX11_slip_58 : decode cX11_slip 58 = .ok (.invokevirtual 196, 3) := by decide +kernel
theorem dX11_slip_61 : decode cX11_slip 61 = .ok (.aload_n 0, 1) := by decide +kernel
theorem dX11_slip_62 : decode cX11_slip 62 = .ok (.getfield 44, 3) := by decide +kernel
theorem dX11_slip_65 : decode cX11_slip 65 = .ok (.iload_n 1, 1) := by decide +kernel
theorem dX11_slip_66 : decode cX11_slip 66 = .ok (.iaload, 1) := by decide +kernel
theorem dX11_slip_67 : decode cX11_slip 67 = .ok (.iconst 2, 1) := by decide +kernel
theorem dX11_slip_68 : decode cX11_slip 68 = .ok (.iadd, 1) := by decide +kernel
theorem dX11_slip_69 : decode cX11_slip 69 = .ok (.ireturn, 1) := by decide +kernel
theorem dX11_jump_0 : decode cX11_jump 0 = .ok (.aload_n 0, 1) := by decide +kernel
theorem dX11_jump_1 : decode cX11_jump 1 = .ok (.iload_n 1, 1) := by decide +kernel
theorem dX11_jump_2 : decode cX11_jump 2 = .ok (.invokevirtual 157, 3) := by decide +kernel
theorem dX11_jump_5 : decode cX11_jump 5 = .ok (.ifCond .eq 16, 3) := by decide +kernel
theorem dX11_jump_8 : decode cX11_jump 8 = .ok (.aload_n 0, 1) := by decide +kernel
theorem dX11_jump_9 : decode cX11_jump 9 = .ok (.iload_n 2, 1) := by decide +kernel
theorem dX11_jump_10 : decode cX11_jump 10 = .ok (.invokevirtual 157, 3) := by decide +kernel
theorem dX11_jump_13 : decode cX11_jump 13 = .ok (.ifCond .eq 8, 3) := by decide +kernel
theorem dX11_jump_16 : decode cX11_jump 16 = .ok (.iload_n 1, 1) := by decide +kernel
theorem dX11_jump_17 : decode cX11_jump 17 = .ok (.iload_n 2, 1) := by decide +kernel
theorem dX11_jump_18 : decode cX11_jump 18 = .ok (.if_icmp .ne 5, 3) := by decide +kernel
theorem dX11_jump_21 : decode cX11_jump 21 = .ok (.iconst (-1), 1) := by decide +kernel
theorem dX11_jump_22 : decode cX11_jump 22 = .ok (.ireturn, 1) := by decide +kernel
theorem dX11_jump_23 : decode cX11_jump 23 = .ok (.aload_n 0, 1) := by decide +kernel
theorem dX11_jump_24 : decode cX11_jump 24 = .ok (.invokevirtual 192, 3) := by decide +kernel
theorem dX11_jump_27 : decode cX11_jump 27 = .ok (.ifCond .eq 6, 3) := by decide +kernel
theorem dX11_jump_30 : decode cX11_jump 30 = .ok (.bipush (-2), 2) := by decide +kernel
theorem dX11_jump_32 : decode cX11_jump 32 = .ok (.ireturn, 1) := by decide +kernel
theorem dX11_jump_33 : decode cX11_jump 33 = .ok (.aload_n 0, 1) := by decide +kernel
theorem dX11_jump_34 : decode cX11_jump 34 = .ok (.getfield 44, 3) := by decide +kernel
theorem dX11_jump_37 : decode cX11_jump 37 = .ok (.iload_n 2, 1) := by decide +kernel
theorem dX11_jump_38 : decode cX11_jump 38 = .ok (.iaload, 1) := by decide +kernel
theorem dX11_jump_39 : decode cX11_jump 39 = .ok (.aload_n 0, 1) := by decide +kernel
theorem dX11_jump_40 : decode cX11_jump 40 = .ok (.getfield 44, 3) := by decide +kernel
theorem dX11_jump_43 : decode cX11_jump 43 = .ok (.iload_n 1, 1) := by decide +kernel
theorem dX11_jump_44 : decode cX11_jump 44 = .ok (.iaload, 1) := by decide +kernel
theorem dX11_jump_45 : decode cX11_jump 45 = .ok (.isub, 1) := by decide +kernel
theorem dX11_jump_46 : decode cX11_jump 46 = .ok (.istore_n 3, 1) := by decide +kernel
theorem dX11_jump_47 : decode cX11_jump 47 = .ok (.aload_n 0, 1) := by decide +kernel
theorem dX11_jump_48 : decode cX11_jump 48 = .ok (.iconst 2, 1) := by decide +kernel
theorem dX11_jump_49 : decode cX11_jump 49 = .ok (.iload_n 1, 1) := by decide +kernel
theorem dX11_jump_50 : decode cX11_jump 50 = .ok (.iload_n 2, 1) := by decide +kernel
theorem dX11_jump_51 : decode cX11_jump 51 = .ok (.invokevirtual 196, 3) := by decide +kernel
theorem dX11_jump_54 : decode cX11_jump 54 = .ok (.iload_n 3, 1) := by decide +kernel
theorem dX11_jump_55 : decode cX11_jump 55 = .ok (.iconst 4, 1) := by decide +kernel
theorem dX11_jump_56 : decode cX11_jump 56 = .ok (.iadd, 1) := by decide +kernel
theorem dX11_jump_57 : decode cX11_jump 57 = .ok (.ireturn, 1) := by decide +kernel
theorem dX11_letterAt_0 : decode cX11_letterAt 0 = .ok (.iconst (-1), 1) := by decide +kernel
theorem dX11_letterAt_1 : decode cX11_letterAt 1 = .ok (.istore_n 2, 1) := by decide +kernel
theorem dX11_letterAt_2 : decode cX11_letterAt 2 = .ok (.iconst 0, 1) := by decide +kernel
theorem dX11_letterAt_3 : decode cX11_letterAt 3 = .ok (.istore_n 3, 1) := by decide +kernel
theorem dX11_letterAt_4 : decode cX11_letterAt 4 = .ok (.iload_n 3, 1) := by decide +kernel
theorem dX11_letterAt_5 : decode cX11_letterAt 5 = .ok (.aload_n 0, 1) := by decide +kernel
theorem dX11_letterAt_6 : decode cX11_letterAt 6 = .ok (.getfield 119, 3) := by decide +kernel
theorem dX11_letterAt_9 : decode cX11_letterAt 9 = .ok (.if_icmp .ge 34, 3) := by decide +kernel
theorem dX11_letterAt_12 : decode cX11_letterAt 12 = .ok (.aload_n 0, 1) := by decide +kernel
theorem dX11_letterAt_13 : decode cX11_letterAt 13 = .ok (.getfield 26, 3) := by decide +kernel
theorem dX11_letterAt_16 : decode cX11_letterAt 16 = .ok (.iload_n 3, 1) := by decide +kernel
theorem dX11_letterAt_17 : decode cX11_letterAt 17 = .ok (.iaload, 1) := by decide +kernel
theorem dX11_letterAt_18 : decode cX11_letterAt 18 = .ok (.iconst 3, 1) := by decide +kernel
theorem dX11_letterAt_19 : decode cX11_letterAt 19 = .ok (.if_icmp .ne 16, 3) := by decide +kernel
theorem dX11_letterAt_22 : decode cX11_letterAt 22 = .ok (.aload_n 0, 1) := by decide +kernel
theorem dX11_letterAt_23 : decode cX11_letterAt 23 = .ok (.iload_n 3, 1) := by decide +kernel
theorem dX11_letterAt_24 : decode cX11_letterAt 24 = .ok (.invokevirtual 167, 3) := by decide +kernel
theorem dX11_letterAt_27 : decode cX11_letterAt 27 = .ok (.iload_n 1, 1) := by decide +kernel
theorem dX11_letterAt_28 : decode cX11_letterAt 28 = .ok (.if_icmp .ne 7, 3) := by decide +kernel
theorem dX11_letterAt_31 : decode cX11_letterAt 31 = .ok (.iload_n 3, 1) := by decide +kernel
theorem dX11_letterAt_32 : decode cX11_letterAt 32 = .ok (.goto 4, 3) := by decide +kernel
theorem dX11_letterAt_35 : decode cX11_letterAt 35 = .ok (.iload_n 2, 1) := by decide +kernel
theorem dX11_letterAt_36 : decode cX11_letterAt 36 = .ok (.istore_n 2, 1) := by decide +kernel
theorem dX11_letterAt_37 : decode cX11_letterAt 37 = .ok (.iinc 3 1, 3) := by decide +kernel
theorem dX11_letterAt_40 : decode cX11_letterAt 40 = .ok (.goto (-36), 3) := by decide +kernel
theorem dX11_letterAt_43 : decode cX11_letterAt 43 = .ok (.iload_n 2, 1) := by decide +kernel
theorem dX11_letterAt_44 : decode cX11_letterAt 44 = .ok (.ireturn, 1) := by decide +kernel
theorem dX11_anew_0 : decode cX11_anew 0 = .ok (.aload_n 0, 1) := by decide +kernel
theorem dX11_anew_1 : decode cX11_anew 1 = .ok (.iload_n 1, 1) := by decide +kernel
theorem dX11_anew_2 : decode cX11_anew 2 = .ok (.invokevirtual 202, 3) := by decide +kernel
theorem dX11_anew_5 : decode cX11_anew 5 = .ok (.istore_n 2, 1) := by decide +kernel
theorem dX11_anew_6 : decode cX11_anew 6 = .ok (.iload_n 2, 1) := by decide +kernel
theorem dX11_anew_7 : decode cX11_anew 7 = .ok (.ifCond .ge 5, 3) := by decide +kernel
theorem dX11_anew_10 : decode cX11_anew 10 = .ok (.iconst (-1), 1) := by decide +kernel
theorem dX11_anew_11 : decode cX11_anew 11 = .ok (.ireturn, 1) := by decide +kernel
theorem dX11_anew_12 : decode cX11_anew 12 = .ok (.aload_n 0, 1) := by decide +kernel
theorem dX11_anew_13 : decode cX11_anew 13 = .ok (.invokevirtual 192, 3) := by decide +kernel
theorem dX11_anew_16 : decode cX11_anew 16 = .ok (.ifCond .eq 6, 3) := by decide +kernel
theorem dX11_anew_19 : decode cX11_anew 19 = .ok (.bipush (-2), 2) := by decide +kernel
theorem dX11_anew_21 : decode cX11_anew 21 = .ok (.ireturn, 1) := by decide +kernel
theorem dX11_anew_22 : decode cX11_anew 22 = .ok (.aload_n 0, 1) := by decide +kernel
theorem dX11_anew_23 : decode cX11_anew 23 = .ok (.iconst 3, 1) := by decide +kernel
theorem dX11_anew_24 : decode cX11_anew 24 = .ok (.iconst 0, 1) := by decide +kernel
theorem dX11_anew_25 : decode cX11_anew 25 = .ok (.iload_n 2, 1) := by decide +kernel
theorem dX11_anew_26 : decode cX11_anew 26 = .ok (.invokevirtual 196, 3) := by decide +kernel
theorem dX11_anew_29 : decode cX11_anew 29 = .ok (.iload_n 2, 1) := by decide +kernel
theorem dX11_anew_30 : decode cX11_anew 30 = .ok (.ireturn, 1) := by decide +kernel
theorem dX11_undo_0 : decode cX11_undo 0 = .ok (.iload_n 1, 1) := by decide +kernel
theorem dX11_undo_1 : decode cX11_undo 1 = .ok (.i2l, 1) := by decide +kernel
theorem dX11_undo_2 : decode cX11_undo 2 = .ok (.lconst 0, 1) := by decide +kernel
theorem dX11_undo_3 : decode cX11_undo 3 = .ok (.aload_n 0, 1) := by decide +kernel
theorem dX11_undo_4 : decode cX11_undo 4 = .ok (.getfield 38, 3) := by decide +kernel
theorem dX11_undo_7 : decode cX11_undo 7 = .ok (.iconst 0, 1) := by decide +kernel
theorem dX11_undo_8 : decode cX11_undo 8 = .ok (.iaload, 1) := by decide +kernel
theorem dX11_undo_9 : decode cX11_undo 9 = .ok (.i2l, 1) := by decide +kernel
theorem dX11_undo_10 : decode cX11_undo 10 = .ok (.invokestatic 76, 3) := by decide +kernel
theorem dX11_undo_13 : decode cX11_undo 13 = .ok (.ifCond .ne 5, 3) := by decide +kernel
theorem dX11_undo_16 : decode cX11_undo 16 = .ok (.iconst (-1), 1) := by decide +kernel
theorem dX11_undo_17 : decode cX11_undo 17 = .ok (.ireturn, 1) := by decide +kernel
theorem dX11_undo_18 : decode cX11_undo 18 = .ok (.aload_n 0, 1) := by decide +kernel
theorem dX11_undo_19 : decode cX11_undo 19 = .ok (.getfield 38, 3) := by decide +kernel
theorem dX11_undo_22 : decode cX11_undo 22 = .ok (.iconst 0, 1) := by decide +kernel
theorem dX11_undo_23 : decode cX11_undo 23 = .ok (.iaload, 1) := by decide +kernel
theorem dX11_undo_24 : decode cX11_undo 24 = .ok (.iload_n 1, 1) := by decide +kernel
theorem dX11_undo_25 : decode cX11_undo 25 = .ok (.isub, 1) := by decide +kernel
theorem dX11_undo_26 : decode cX11_undo 26 = .ok (.istore_n 2, 1) := by decide +kernel
theorem dX11_undo_27 : decode cX11_undo 27 = .ok (.aload_n 0, 1) := by decide +kernel
theorem dX11_undo_28 : decode cX11_undo 28 = .ok (.getfield 38, 3) := by decide +kernel
theorem dX11_undo_31 : decode cX11_undo 31 = .ok (.iconst 0, 1) := by decide +kernel
theorem dX11_undo_32 : decode cX11_undo 32 = .ok (.iload_n 1, 1) := by decide +kernel
theorem dX11_undo_33 : decode cX11_undo 33 = .ok (.iastore, 1) := by decide +kernel
theorem dX11_undo_34 : decode cX11_undo 34 = .ok (.aload_n 0, 1) := by decide +kernel
theorem dX11_undo_35 : decode cX11_undo 35 = .ok (.invokevirtual 122, 3) := by decide +kernel
theorem dX11_undo_38 : decode cX11_undo 38 = .ok (.iload_n 2, 1) := by decide +kernel
theorem dX11_undo_39 : decode cX11_undo 39 = .ok (.ireturn, 1) := by decide +kernel
theorem dX11_here_0 : decode cX11_here 0 = .ok (.aload_n 0, 1) := by decide +kernel
theorem dX11_here_1 : decode cX11_here 1 = .ok (.getfield 119, 3) := by decide +kernel
theorem dX11_here_4 : decode cX11_here 4 = .ok (.ifCond .ne 8, 3) := by decide +kernel
theorem dX11_here_7 : decode cX11_here 7 = .ok (.bipush (-4), 2) := by decide +kernel
theorem dX11_here_9 : decode cX11_here 9 = .ok (.goto 15, 3) := by decide +kernel
theorem dX11_here_12 : decode cX11_here 12 = .ok (.aload_n 0, 1) := by decide +kernel
theorem dX11_here_13 : decode cX11_here 13 = .ok (.aload_n 0, 1) := by decide +kernel
theorem dX11_here_14 : decode cX11_here 14 = .ok (.getfield 182, 3) := by decide +kernel
theorem dX11_here_17 : decode cX11_here 17 = .ok (.aload_n 0, 1) := by decide +kernel
theorem dX11_here_18 : decode cX11_here 18 = .ok (.getfield 176, 3) := by decide +kernel
theorem dX11_here_21 : decode cX11_here 21 = .ok (.invokevirtual 84, 3) := by decide +kernel
theorem dX11_here_24 : decode cX11_here 24 = .ok (.ireturn, 1) := by decide +kernel
theorem dX11_out_0 : decode cX11_out 0 = .ok (.aload_n 0, 1) := by decide +kernel
theorem dX11_out_1 : decode cX11_out 1 = .ok (.iload_n 1, 1) := by decide +kernel
theorem dX11_out_2 : decode cX11_out 2 = .ok (.invokevirtual 157, 3) := by decide +kernel
theorem dX11_out_5 : decode cX11_out 5 = .ok (.ifCond .eq 14, 3) := by decide +kernel
theorem dX11_out_8 : decode cX11_out 8 = .ok (.aload_n 0, 1) := by decide +kernel
theorem dX11_out_9 : decode cX11_out 9 = .ok (.getfield 44, 3) := by decide +kernel
theorem dX11_out_12 : decode cX11_out 12 = .ok (.iload_n 1, 1) := by decide +kernel
theorem dX11_out_13 : decode cX11_out 13 = .ok (.iaload, 1) := by decide +kernel
theorem dX11_out_14 : decode cX11_out 14 = .ok (.iconst 2, 1) := by decide +kernel
theorem dX11_out_15 : decode cX11_out 15 = .ok (.iadd, 1) := by decide +kernel
theorem dX11_out_16 : decode cX11_out 16 = .ok (.goto 4, 3) := by decide +kernel
theorem dX11_out_19 : decode cX11_out 19 = .ok (.iconst (-1), 1) := by decide +kernel
theorem dX11_out_20 : decode cX11_out 20 = .ok (.ireturn, 1) := by decide +kernel
theorem dX11_hear_0 : decode cX11_hear 0 = .ok (.aload_n 0, 1) := by decide +kernel
theorem dX11_hear_1 : decode cX11_hear 1 = .ok (.getfield 176, 3) := by decide +kernel
theorem dX11_hear_4 : decode cX11_hear 4 = .ok (.aload_n 0, 1) := by decide +kernel
theorem dX11_hear_5 : decode cX11_hear 5 = .ok (.getfield 119, 3) := by decide +kernel
theorem dX11_hear_8 : decode cX11_hear 8 = .ok (.if_icmp .lt 6, 3) := by decide +kernel
theorem dX11_hear_11 : decode cX11_hear 11 = .ok (.bipush (-4), 2) := by decide +kernel
theorem dX11_hear_13 : decode cX11_hear 13 = .ok (.ireturn, 1) := by decide +kernel
theorem dX11_hear_14 : decode cX11_hear 14 = .ok (.aload_n 0, 1) := by decide +kernel
theorem dX11_hear_15 : decode cX11_hear 15 = .ok (.invokevirtual 189, 3) := by decide +kernel
theorem dX11_hear_18 : decode cX11_hear 18 = .ok (.aload_n 0, 1) := by decide +kernel
theorem dX11_hear_19 : decode cX11_hear 19 = .ok (.aload_n 0, 1) := by decide +kernel
theorem dX11_hear_20 : decode cX11_hear 20 = .ok (.getfield 176, 3) := by decide +kernel
theorem dX11_hear_23 : decode cX11_hear 23 = .ok (.invokevirtual 143, 3) := by decide +kernel
theorem dX11_hear_26 : decode cX11_hear 26 = .ok (.ireturn, 1) := by decide +kernel
theorem dX11_heard_0 : decode cX11_heard 0 = .ok (.iload_n 1, 1) := by decide +kernel
theorem dX11_heard_1 : decode cX11_heard 1 = .ok (.i2l, 1) := by decide +kernel
theorem dX11_heard_2 : decode cX11_heard 2 = .ok (.lconst 0, 1) := by decide +kernel
theorem dX11_heard_3 : decode cX11_heard 3 = .ok (.ldc2_w 74, 3) := by decide +kernel
theorem dX11_heard_6 : decode cX11_heard 6 = .ok (.invokestatic 76, 3) := by decide +kernel
theorem dX11_heard_9 : decode cX11_heard 9 = .ok (.ifCond .ne 5, 3) := by decide +kernel
theorem dX11_heard_12 : decode cX11_heard 12 = .ok (.iconst (-1), 1) := by decide +kernel
theorem dX11_heard_13 : decode cX11_heard 13 = .ok (.ireturn, 1) := by decide +kernel
theorem dX11_heard_14 : decode cX11_heard 14 = .ok (.aload_n 0, 1) := by decide +kernel
theorem dX11_heard_15 : decode cX11_heard 15 = .ok (.getfield 7, 3) := by decide +kernel
theorem dX11_heard_18 : decode cX11_heard 18 = .ok (.iload_n 1, 1) := by decide +kernel
theorem dX11_heard_19 : decode cX11_heard 19 = .ok (.aload_n 0, 1) := by decide +kernel
theorem dX11_heard_20 : decode cX11_heard 20 = .ok (.getfield 182, 3) := by decide +kernel
theorem dX11_heard_23 : decode cX11_heard 23 = .ok (.iastore, 1) := by decide +kernel
theorem dX11_heard_24 : decode cX11_heard 24 = .ok (.iconst 0, 1) := by decide +kernel
theorem dX11_heard_25 : decode cX11_heard 25 = .ok (.istore_n 2, 1) := by decide +kernel
theorem dX11_heard_26 : decode cX11_heard 26 = .ok (.iload_n 2, 1) := by decide +kernel
theorem dX11_heard_27 : decode cX11_heard 27 = .ok (.aload_n 0, 1) := by decide +kernel
theorem dX11_heard_28 : decode cX11_heard 28 = .ok (.getfield 182, 3) := by decide +kernel
theorem dX11_heard_31 : decode cX11_heard 31 = .ok (.if_icmp .ge 26, 3) := by decide +kernel
theorem dX11_heard_34 : decode cX11_heard 34 = .ok (.aload_n 0, 1) := by decide +kernel
theorem dX11_heard_35 : decode cX11_heard 35 = .ok (.getfield 13, 3) := by decide +kernel
theorem dX11_heard_38 : decode cX11_heard 38 = .ok (.bipush 40, 2) := by decide +kernel
theorem dX11_heard_40 : decode cX11_heard 40 = .ok (.iload_n 1, 1) := by decide +kernel
theorem dX11_heard_41 : decode cX11_heard 41 = .ok (.imul, 1) := by decide +kernel
theorem dX11_heard_42 : decode cX11_heard 42 = .ok (.iload_n 2, 1) := by decide +kernel
theorem dX11_heard_43 : decode cX11_heard 43 = .ok (.iadd, 1) := by decide +kernel
theorem dX11_heard_44 : decode cX11_heard 44 = .ok (.aload_n 0, 1) := by decide +kernel
theorem dX11_heard_45 : decode cX11_heard 45 = .ok (.getfield 47, 3) := by decide +kernel
theorem dX11_heard_48 : decode cX11_heard 48 = .ok (.iload_n 2, 1) := by decide +kernel
theorem dX11_heard_49 : decode cX11_heard 49 = .ok (.iaload, 1) := by decide +kernel
theorem dX11_heard_50 : decode cX11_heard 50 = .ok (.iastore, 1) := by decide +kernel
theorem dX11_heard_51 : decode cX11_heard 51 = .ok (.iinc 2 1, 3) := by decide +kernel
theorem dX11_heard_54 : decode cX11_heard 54 = .ok (.goto (-28), 3) := by decide +kernel
theorem dX11_heard_57 : decode cX11_heard 57 = .ok (.aload_n 0, 1) := by decide +kernel
theorem dX11_heard_58 : decode cX11_heard 58 = .ok (.getfield 182, 3) := by decide +kernel
theorem dX11_heard_61 : decode cX11_heard 61 = .ok (.ireturn, 1) := by decide +kernel
theorem dX11_copies_0 : decode cX11_copies 0 = .ok (.aload_n 0, 1) := by decide +kernel
theorem dX11_copies_1 : decode cX11_copies 1 = .ok (.getfield 38, 3) := by decide +kernel
theorem dX11_copies_4 : decode cX11_copies 4 = .ok (.iload_n 2, 1) := by decide +kernel
theorem dX11_copies_5 : decode cX11_copies 5 = .ok (.aload_n 0, 1) := by decide +kernel
theorem dX11_copies_6 : decode cX11_copies 6 = .ok (.getfield 38, 3) := by decide +kernel
theorem dX11_copies_9 : decode cX11_copies 9 = .ok (.iload_n 1, 1) := by decide +kernel
theorem dX11_copies_10 : decode cX11_copies 10 = .ok (.iaload, 1) := by decide +kernel
theorem dX11_copies_11 : decode cX11_copies 11 = .ok (.iastore, 1) := by decide +kernel
theorem dX11_copies_12 : decode cX11_copies 12 = .ok (.iconst 0, 1) := by decide +kernel
theorem dX11_copies_13 : decode cX11_copies 13 = .ok (.istore_n 3, 1) := by decide +kernel
theorem dX11_copies_14 : decode cX11_copies 14 = .ok (.iload_n 3, 1) := by decide +kernel
theorem dX11_copies_15 : decode cX11_copies 15 = .ok (.bipush 120, 2) := by decide +kernel
theorem dX11_copies_17 : decode cX11_copies 17 = .ok (.if_icmp .ge 31, 3) := by decide +kernel
theorem dX11_copies_20 : decode cX11_copies 20 = .ok (.aload_n 0, 1) := by decide +kernel
theorem dX11_copies_21 : decode cX11_copies 21 = .ok (.getfield 41, 3) := by decide +kernel
theorem dX11_copies_24 : decode cX11_copies 24 = .ok (.bipush 120, 2) := by decide +kernel
theorem dX11_copies_26 : decode cX11_copies 26 = .ok (.iload_n 2, 1) := by decide +kernel
theorem dX11_copies_27 : decode cX11_copies 27 = .ok (.imul, 1) := by decide +kernel
theorem dX11_copies_28 : decode cX11_copies 28 = .ok (.iload_n 3, 1) := by decide +kernel
theorem dX11_copies_29 : decode cX11_copies 29 = .ok (.iadd, 1) := by decide +kernel
theorem dX11_copies_30 : decode cX11_copies 30 = .ok (.aload_n 0, 1) := by decide +kernel
theorem dX11_copies_31 : decode cX11_copies 31 = .ok (.getfield 41, 3) := by decide +kernel
theorem dX11_copies_34 : decode cX11_copies 34 = .ok (.bipush 120, 2) := by decide +kernel
theorem dX11_copies_36 : decode cX11_copies 36 = .ok (.iload_n 1, 1) := by decide +kernel
theorem dX11_copies_37 : decode cX11_copies 37 = .ok (.imul, 1) := by decide +kernel
theorem dX11_copies_38 : decode cX11_copies 38 = .ok (.iload_n 3, 1) := by decide +kernel
theorem dX11_copies_39 : decode cX11_copies 39 = .ok (.iadd, 1) := by decide +kernel
theorem dX11_copies_40 : decode cX11_copies 40 = .ok (.iaload, 1) := by decide +kernel
theorem dX11_copies_41 : decode cX11_copies 41 = .ok (.iastore, 1) := by decide +kernel
theorem dX11_copies_42 : decode cX11_copies 42 = .ok (.iinc 3 1, 3) := by decide +kernel
theorem dX11_copies_45 : decode cX11_copies 45 = .ok (.goto (-31), 3) := by decide +kernel
theorem dX11_copies_48 : decode cX11_copies 48 = .ok (.return_, 1) := by decide +kernel
theorem dX11_image_0 : decode cX11_image 0 = .ok (.iload_n 1, 1) := by decide +kernel
theorem dX11_image_1 : decode cX11_image 1 = .ok (.i2l, 1) := by decide +kernel
theorem dX11_image_2 : decode cX11_image 2 = .ok (.lconst 0, 1) := by decide +kernel
theorem dX11_image_3 : decode cX11_image 3 = .ok (.ldc2_w 152, 3) := by decide +kernel
theorem dX11_image_6 : decode cX11_image 6 = .ok (.invokestatic 76, 3) := by decide +kernel
theorem dX11_image_9 : decode cX11_image 9 = .ok (.ifCond .ne 5, 3) := by decide +kernel
theorem dX11_image_12 : decode cX11_image 12 = .ok (.iconst (-1), 1) := by decide +kernel
theorem dX11_image_13 : decode cX11_image 13 = .ok (.ireturn, 1) := by decide +kernel
theorem dX11_image_14 : decode cX11_image 14 = .ok (.aload_n 0, 1) := by decide +kernel
theorem dX11_image_15 : decode cX11_image 15 = .ok (.getfield 119, 3) := by decide +kernel
theorem dX11_image_18 : decode cX11_image 18 = .ok (.ifCond .ne 6, 3) := by decide +kernel
theorem dX11_image_21 : decode cX11_image 21 = .ok (.bipush (-4), 2) := by decide +kernel
theorem dX11_image_23 : decode cX11_image 23 = .ok (.ireturn, 1) := by decide +kernel
theorem dX11_image_24 : decode cX11_image 24 = .ok (.aload_n 0, 1) := by decide +kernel
theorem dX11_image_25 : decode cX11_image 25 = .ok (.iconst 0, 1) := by decide +kernel
theorem dX11_image_26 : decode cX11_image 26 = .ok (.iload_n 1, 1) := by decide +kernel
theorem dX11_image_27 : decode cX11_image 27 = .ok (.iconst 1, 1) := by decide +kernel
theorem dX11_image_28 : decode cX11_image 28 = .ok (.iadd, 1) := by decide +kernel
theorem dX11_image_29 : decode cX11_image 29 = .ok (.invokevirtual 205, 3) := by decide +kernel
theorem dX11_image_32 : decode cX11_image 32 = .ok (.aload_n 0, 1) := by decide +kernel
theorem dX11_image_33 : decode cX11_image 33 = .ok (.getfield 38, 3) := by decide +kernel
theorem dX11_image_36 : decode cX11_image 36 = .ok (.iconst 0, 1) := by decide +kernel
theorem dX11_image_37 : decode cX11_image 37 = .ok (.iaload, 1) := by decide +kernel
theorem dX11_image_38 : decode cX11_image 38 = .ok (.ireturn, 1) := by decide +kernel
theorem dX11_restore_0 : decode cX11_restore 0 = .ok (.iload_n 1, 1) := by decide +kernel
theorem dX11_restore_1 : decode cX11_restore 1 = .ok (.i2l, 1) := by decide +kernel
theorem dX11_restore_2 : decode cX11_restore 2 = .ok (.lconst 0, 1) := by decide +kernel
theorem dX11_restore_3 : decode cX11_restore 3 = .ok (.ldc2_w 152, 3) := by decide +kernel
theorem dX11_restore_6 : decode cX11_restore 6 = .ok (.invokestatic 76, 3) := by decide +kernel
theorem dX11_restore_9 : decode cX11_restore 9 = .ok (.ifCond .ne 5, 3) := by decide +kernel
theorem dX11_restore_12 : decode cX11_restore 12 = .ok (.iconst (-1), 1) := by decide +kernel
theorem dX11_restore_13 : decode cX11_restore 13 = .ok (.ireturn, 1) := by decide +kernel
theorem dX11_restore_14 : decode cX11_restore 14 = .ok (.aload_n 0, 1) := by decide +kernel
theorem dX11_restore_15 : decode cX11_restore 15 = .ok (.getfield 38, 3) := by decide +kernel
theorem dX11_restore_18 : decode cX11_restore 18 = .ok (.iload_n 1, 1) := by decide +kernel
theorem dX11_restore_19 : decode cX11_restore 19 = .ok (.iconst 1, 1) := by decide +kernel
theorem dX11_restore_20 : decode cX11_restore 20 = .ok (.iadd, 1) := by decide +kernel
theorem dX11_restore_21 : decode cX11_restore 21 = .ok (.iaload, 1) := by decide +kernel
theorem dX11_restore_22 : decode cX11_restore 22 = .ok (.ifCond .ge 9, 3) := by decide +kernel
theorem dX11_restore_25 : decode cX11_restore 25 = .ok (.aload_n 0, 1) := by decide +kernel
theorem dX11_restore_26 : decode cX11_restore 26 = .ok (.iconst 1, 1) := by decide +kernel
theorem dX11_restore_27 : decode cX11_restore 27 = .ok (.invokevirtual 80, 3) := by decide +kernel
theorem dX11_restore_30 : decode cX11_restore 30 = .ok (.ireturn, 1) := by decide +kernel
theorem dX11_restore_31 : decode cX11_restore 31 = .ok (.aload_n 0, 1) := by decide +kernel
theorem dX11_restore_32 : decode cX11_restore 32 = .ok (.iload_n 1, 1) := by decide +kernel
theorem dX11_restore_33 : decode cX11_restore 33 = .ok (.iconst 1, 1) := by decide +kernel
theorem dX11_restore_34 : decode cX11_restore 34 = .ok (.iadd, 1) := by decide +kernel
theorem dX11_restore_35 : decode cX11_restore 35 = .ok (.iconst 0, 1) := by decide +kernel
theorem dX11_restore_36 : decode cX11_restore 36 = .ok (.invokevirtual 205, 3) := by decide +kernel
theorem dX11_restore_39 : decode cX11_restore 39 = .ok (.aload_n 0, 1) := by decide +kernel
theorem dX11_restore_40 : decode cX11_restore 40 = .ok (.invokevirtual 122, 3) := by decide +kernel
theorem dX11_restore_43 : decode cX11_restore 43 = .ok (.aload_n 0, 1) := by decide +kernel
theorem dX11_restore_44 : decode cX11_restore 44 = .ok (.getfield 38, 3) := by decide +kernel
theorem dX11_restore_47 : decode cX11_restore 47 = .ok (.iconst 0, 1) := by decide +kernel
theorem dX11_restore_48 : decode cX11_restore 48 = .ok (.iaload, 1) := by decide +kernel
theorem dX11_restore_49 : decode cX11_restore 49 = .ok (.ireturn, 1) := by decide +kernel
theorem dX11_outs_0 : decode cX11_outs 0 = .ok (.iconst 1, 1) := by decide +kernel
theorem dX11_outs_1 : decode cX11_outs 1 = .ok (.istore_n 1, 1) := by decide +kernel
theorem dX11_outs_2 : decode cX11_outs 2 = .ok (.iconst 0, 1) := by decide +kernel
theorem dX11_outs_3 : decode cX11_outs 3 = .ok (.istore_n 2, 1) := by decide +kernel
theorem dX11_outs_4 : decode cX11_outs 4 = .ok (.iload_n 2, 1) := by decide +kernel
theorem dX11_outs_5 : decode cX11_outs 5 = .ok (.aload_n 0, 1) := by decide +kernel
theorem dX11_outs_6 : decode cX11_outs 6 = .ok (.getfield 116, 3) := by decide +kernel
theorem dX11_outs_9 : decode cX11_outs 9 = .ok (.if_icmp .ge 13, 3) := by decide +kernel
theorem dX11_outs_12 : decode cX11_outs 12 = .ok (.iload_n 1, 1) := by decide +kernel
theorem dX11_outs_13 : decode cX11_outs 13 = .ok (.iconst 5, 1) := by decide +kernel
theorem dX11_outs_14 : decode cX11_outs 14 = .ok (.imul, 1) := by decide +kernel
theorem dX11_outs_15 : decode cX11_outs 15 = .ok (.istore_n 1, 1) := by decide +kernel
theorem dX11_outs_16 : decode cX11_outs 16 = .ok (.iinc 2 1, 3) := by decide +kernel
theorem dX11_outs_19 : decode cX11_outs 19 = .ok (.goto (-15), 3) := by decide +kernel
theorem dX11_outs_22 : decode cX11_outs 22 = .ok (.iload_n 1, 1) := by decide +kernel
theorem dX11_outs_23 : decode cX11_outs 23 = .ok (.ireturn, 1) := by decide +kernel
theorem dX11_tries_0 : decode cX11_tries 0 = .ok (.iload_n 1, 1) := by decide +kernel
theorem dX11_tries_1 : decode cX11_tries 1 = .ok (.istore_n 2, 1) := by decide +kernel
theorem dX11_tries_2 : decode cX11_tries 2 = .ok (.iconst 1, 1) := by decide +kernel
theorem dX11_tries_3 : decode cX11_tries 3 = .ok (.istore_n 3, 1) := by decide +kernel
theorem dX11_tries_4 : decode cX11_tries 4 = .ok (.aload_n 0, 1) := by decide +kernel
theorem dX11_tries_5 : decode cX11_tries 5 = .ok (.invokevirtual 140, 3) := by decide +kernel
theorem dX11_tries_8 : decode cX11_tries 8 = .ok (.iconst 0, 1) := by decide +kernel
theorem dX11_tries_9 : decode cX11_tries 9 = .ok (.istore 4, 2) := by decide +kernel
theorem dX11_tries_11 : decode cX11_tries 11 = .ok (.iload 4, 2) := by decide +kernel
theorem dX11_tries_13 : decode cX11_tries 13 = .ok (.aload_n 0, 1) := by decide +kernel
theorem dX11_tries_14 : decode cX11_tries 14 = .ok (.getfield 116, 3) := by decide +kernel
theorem dX11_tries_17 : decode cX11_tries 17 = .ok (.if_icmp .ge 69, 3) := by decide +kernel
theorem dX11_tries_20 : decode cX11_tries 20 = .ok (.aload_n 0, 1) := by decide +kernel
theorem dX11_tries_21 : decode cX11_tries 21 = .ok (.getfield 57, 3) := by decide +kernel
theorem dX11_tries_24 : decode cX11_tries 24 = .ok (.iload 4, 2) := by decide +kernel
theorem dX11_tries_26 : decode cX11_tries 26 = .ok (.iload_n 2, 1) := by decide +kernel
theorem dX11_tries_27 : decode cX11_tries 27 = .ok (.iconst 5, 1) := by decide +kernel
theorem dX11_tries_28 : decode cX11_tries 28 = .ok (.irem, 1) := by decide +kernel
theorem dX11_tries_29 : decode cX11_tries 29 = .ok (.iconst 2, 1) := by decide +kernel
theorem dX11_tries_30 : decode cX11_tries 30 = .ok (.isub, 1) := by decide +kernel
theorem dX11_tries_31 : decode cX11_tries 31 = .ok (.iastore, 1) := by decide +kernel
theorem dX11_tries_32 : decode cX11_tries 32 = .ok (.iload_n 2, 1) := by decide +kernel
theorem dX11_tries_33 : decode cX11_tries 33 = .ok (.iconst 5, 1) := by decide +kernel
theorem dX11_tries_34 : decode cX11_tries 34 = .ok (.idiv, 1) := by decide +kernel
theorem dX11_tries_35 : decode cX11_tries 35 = .ok (.istore_n 2, 1) := by decide +kernel
theorem dX11_tries_36 : decode cX11_tries 36 = .ok (.iload_n 3, 1) := by decide +kernel
theorem dX11_tries_37 : decode cX11_tries 37 = .ok (.aload_n 0, 1) := by decide +kernel
theorem dX11_tries_38 : decode cX11_tries 38 = .ok (.getfield 57, 3) := by decide +kernel
theorem dX11_tries_41 : decode cX11_tries 41 = .ok (.iload 4, 2) := by decide +kernel
theorem dX11_tries_43 : decode cX11_tries 43 = .ok (.iaload, 1) := by decide +kernel
theorem dX11_tries_44 : decode cX11_tries 44 = .ok (.ifCond .ne 7, 3) := by decide +kernel
theorem dX11_tries_47 : decode cX11_tries 47 = .ok (.iconst 4, 1) := by decide +kernel
theorem dX11_tries_48 : decode cX11_tries 48 = .ok (.goto 30, 3) := by decide +kernel
theorem dX11_tries_51 : decode cX11_tries 51 = .ok (.aload_n 0, 1) := by decide +kernel
theorem dX11_tries_52 : decode cX11_tries 52 = .ok (.getfield 57, 3) := by decide +kernel
theorem dX11_tries_55 : decode cX11_tries 55 = .ok (.iload 4, 2) := by decide +kernel
theorem dX11_tries_57 : decode cX11_tries 57 = .ok (.iaload, 1) := by decide +kernel
theorem dX11_tries_58 : decode cX11_tries 58 = .ok (.iconst 1, 1) := by decide +kernel
theorem dX11_tries_59 : decode cX11_tries 59 = .ok (.if_icmp .eq 14, 3) := by decide +kernel
theorem dX11_tries_62 : decode cX11_tries 62 = .ok (.aload_n 0, 1) := by decide +kernel
theorem dX11_tries_63 : decode cX11_tries 63 = .ok (.getfield 57, 3) := by decide +kernel
theorem dX11_tries_66 : decode cX11_tries 66 = .ok (.iload 4, 2) := by decide +kernel
theorem dX11_tries_68 : decode cX11_tries 68 = .ok (.iaload, 1) := by decide +kernel
theorem dX11_tries_69 : decode cX11_tries 69 = .ok (.iconst (-1), 1) := by decide +kernel
theorem dX11_tries_70 : decode cX11_tries 70 = .ok (.if_icmp .ne 7, 3) := by decide +kernel
theorem dX11_tries_73 : decode cX11_tries 73 = .ok (.iconst 2, 1) := by decide +kernel
theorem dX11_tries_74 : decode cX11_tries 74 = .ok (.goto 4, 3) := by decide +kernel
theorem dX11_tries_77 : decode cX11_tries 77 = .ok (.iconst 1, 1) := by decide +kernel
theorem dX11_tries_78 : decode cX11_tries 78 = .ok (.imul, 1) := by decide +kernel
theorem dX11_tries_79 : decode cX11_tries 79 = .ok (.istore_n 3, 1) := by decide +kernel
theorem dX11_tries_80 : decode cX11_tries 80 = .ok (.iinc 4 1, 3) := by decide +kernel
theorem dX11_tries_83 : decode cX11_tries 83 = .ok (.goto (-72), 3) := by decide +kernel
theorem dX11_tries_86 : decode cX11_tries 86 = .ok (.iload_n 3, 1) := by decide +kernel
theorem dX11_tries_87 : decode cX11_tries 87 = .ok (.ireturn, 1) := by decide +kernel
theorem dX11_fitting_0 : decode cX11_fitting 0 = .ok (.aload_n 0, 1) := by decide +kernel
theorem dX11_fitting_1 : decode cX11_fitting 1 = .ok (.iload_n 1, 1) := by decide +kernel
theorem dX11_fitting_2 : decode cX11_fitting 2 = .ok (.invokevirtual 209, 3) := by decide +kernel
theorem dX11_fitting_5 : decode cX11_fitting 5 = .ok (.istore_n 2, 1) := by decide +kernel
theorem dX11_fitting_6 : decode cX11_fitting 6 = .ok (.iconst 0, 1) := by decide +kernel
theorem dX11_fitting_7 : decode cX11_fitting 7 = .ok (.istore_n 3, 1) := by decide +kernel
theorem dX11_fitting_8 : decode cX11_fitting 8 = .ok (.iload_n 3, 1) := by decide +kernel
theorem dX11_fitting_9 : decode cX11_fitting 9 = .ok (.aload_n 0, 1) := by decide +kernel
theorem dX11_fitting_10 : decode cX11_fitting 10 = .ok (.getfield 182, 3) := by decide +kernel
theorem dX11_fitting_13 : decode cX11_fitting 13 = .ok (.if_icmp .ge 30, 3) := by decide +kernel
theorem dX11_fitting_16 : decode cX11_fitting 16 = .ok (.aload_n 0, 1) := by decide +kernel
theorem dX11_fitting_17 : decode cX11_fitting 17 = .ok (.aload_n 0, 1) := by decide +kernel
theorem dX11_fitting_18 : decode cX11_fitting 18 = .ok (.getfield 179, 3) := by decide +kernel
theorem dX11_fitting_21 : decode cX11_fitting 21 = .ok (.iload_n 3, 1) := by decide +kernel
theorem dX11_fitting_22 : decode cX11_fitting 22 = .ok (.iadd, 1) := by decide +kernel
theorem dX11_fitting_23 : decode cX11_fitting 23 = .ok (.invokevirtual 143, 3) := by decide +kernel
theorem dX11_fitting_26 : decode cX11_fitting 26 = .ok (.aload_n 0, 1) := by decide +kernel
theorem dX11_fitting_27 : decode cX11_fitting 27 = .ok (.getfield 47, 3) := by decide +kernel
theorem dX11_fitting_30 : decode cX11_fitting 30 = .ok (.iload_n 3, 1) := by decide +kernel
theorem dX11_fitting_31 : decode cX11_fitting 31 = .ok (.iaload, 1) := by decide +kernel
