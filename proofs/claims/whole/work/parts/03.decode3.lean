theorem dX11_fitting_32 : decode cX11_fitting 32 = .ok (.if_icmp .eq 5, 3) := by decide +kernel
theorem dX11_fitting_35 : decode cX11_fitting 35 = .ok (.iconst 0, 1) := by decide +kernel
theorem dX11_fitting_36 : decode cX11_fitting 36 = .ok (.ireturn, 1) := by decide +kernel
theorem dX11_fitting_37 : decode cX11_fitting 37 = .ok (.iinc 3 1, 3) := by decide +kernel
theorem dX11_fitting_40 : decode cX11_fitting 40 = .ok (.goto (-32), 3) := by decide +kernel
theorem dX11_fitting_43 : decode cX11_fitting 43 = .ok (.iload_n 2, 1) := by decide +kernel
theorem dX11_fitting_44 : decode cX11_fitting 44 = .ok (.ireturn, 1) := by decide +kernel
theorem dX11_fits_0 : decode cX11_fits 0 = .ok (.aload_n 0, 1) := by decide +kernel
theorem dX11_fits_1 : decode cX11_fits 1 = .ok (.getfield 119, 3) := by decide +kernel
theorem dX11_fits_4 : decode cX11_fits 4 = .ok (.ifCond .ne 6, 3) := by decide +kernel
theorem dX11_fits_7 : decode cX11_fits 7 = .ok (.bipush (-4), 2) := by decide +kernel
theorem dX11_fits_9 : decode cX11_fits 9 = .ok (.ireturn, 1) := by decide +kernel
theorem dX11_fits_10 : decode cX11_fits 10 = .ok (.iconst 0, 1) := by decide +kernel
theorem dX11_fits_11 : decode cX11_fits 11 = .ok (.istore_n 1, 1) := by decide +kernel
theorem dX11_fits_12 : decode cX11_fits 12 = .ok (.bipush (-9), 2) := by decide +kernel
theorem dX11_fits_14 : decode cX11_fits 14 = .ok (.istore_n 2, 1) := by decide +kernel
theorem dX11_fits_15 : decode cX11_fits 15 = .ok (.iconst 0, 1) := by decide +kernel
theorem dX11_fits_16 : decode cX11_fits 16 = .ok (.istore_n 3, 1) := by decide +kernel
theorem dX11_fits_17 : decode cX11_fits 17 = .ok (.iload_n 3, 1) := by decide +kernel
theorem dX11_fits_18 : decode cX11_fits 18 = .ok (.aload_n 0, 1) := by decide +kernel
theorem dX11_fits_19 : decode cX11_fits 19 = .ok (.invokevirtual 212, 3) := by decide +kernel
theorem dX11_fits_22 : decode cX11_fits 22 = .ok (.if_icmp .ge 30, 3) := by decide +kernel
theorem dX11_fits_25 : decode cX11_fits 25 = .ok (.aload_n 0, 1) := by decide +kernel
theorem dX11_fits_26 : decode cX11_fits 26 = .ok (.iload_n 3, 1) := by decide +kernel
theorem dX11_fits_27 : decode cX11_fits 27 = .ok (.invokevirtual 216, 3) := by decide +kernel
theorem dX11_fits_30 : decode cX11_fits 30 = .ok (.ifCond .le 16, 3) := by decide +kernel
theorem dX11_fits_33 : decode cX11_fits 33 = .ok (.iload_n 1, 1) := by decide +kernel
theorem dX11_fits_34 : decode cX11_fits 34 = .ok (.ifCond .ne 7, 3) := by decide +kernel
theorem dX11_fits_37 : decode cX11_fits 37 = .ok (.iload_n 3, 1) := by decide +kernel
theorem dX11_fits_38 : decode cX11_fits 38 = .ok (.goto 4, 3) := by decide +kernel
theorem dX11_fits_41 : decode cX11_fits 41 = .ok (.iload_n 2, 1) := by decide +kernel
theorem dX11_fits_42 : decode cX11_fits 42 = .ok (.istore_n 2, 1) := by decide +kernel
theorem dX11_fits_43 : decode cX11_fits 43 = .ok (.iinc 1 1, 3) := by decide +kernel
theorem dX11_fits_46 : decode cX11_fits 46 = .ok (.iinc 3 1, 3) := by decide +kernel
theorem dX11_fits_49 : decode cX11_fits 49 = .ok (.goto (-32), 3) := by decide +kernel
theorem dX11_fits_52 : decode cX11_fits 52 = .ok (.aload_n 0, 1) := by decide +kernel
theorem dX11_fits_53 : decode cX11_fits 53 = .ok (.iload_n 2, 1) := by decide +kernel
theorem dX11_fits_54 : decode cX11_fits 54 = .ok (.iload_n 1, 1) := by decide +kernel
theorem dX11_fits_55 : decode cX11_fits 55 = .ok (.invokevirtual 84, 3) := by decide +kernel
theorem dX11_fits_58 : decode cX11_fits 58 = .ok (.ireturn, 1) := by decide +kernel
theorem dX11_chance_0 : decode cX11_chance 0 = .ok (.lload_n 1, 1) := by decide +kernel
theorem dX11_chance_1 : decode cX11_chance 1 = .ok (.lstore 5, 2) := by decide +kernel
theorem dX11_chance_3 : decode cX11_chance 3 = .ok (.lload_n 3, 1) := by decide +kernel
theorem dX11_chance_4 : decode cX11_chance 4 = .ok (.lstore 7, 2) := by decide +kernel
theorem dX11_chance_6 : decode cX11_chance 6 = .ok (.lload 7, 2) := by decide +kernel
theorem dX11_chance_8 : decode cX11_chance 8 = .ok (.lconst 0, 1) := by decide +kernel
theorem dX11_chance_9 : decode cX11_chance 9 = .ok (.lcmp, 1) := by decide +kernel
theorem dX11_chance_10 : decode cX11_chance 10 = .ok (.ifCond .eq 21, 3) := by decide +kernel
theorem dX11_chance_13 : decode cX11_chance 13 = .ok (.lload 5, 2) := by decide +kernel
theorem dX11_chance_15 : decode cX11_chance 15 = .ok (.lload 7, 2) := by decide +kernel
theorem dX11_chance_17 : decode cX11_chance 17 = .ok (.lrem, 1) := by decide +kernel
theorem dX11_chance_18 : decode cX11_chance 18 = .ok (.lstore 9, 2) := by decide +kernel
theorem dX11_chance_20 : decode cX11_chance 20 = .ok (.lload 7, 2) := by decide +kernel
theorem dX11_chance_22 : decode cX11_chance 22 = .ok (.lstore 5, 2) := by decide +kernel
theorem dX11_chance_24 : decode cX11_chance 24 = .ok (.lload 9, 2) := by decide +kernel
theorem dX11_chance_26 : decode cX11_chance 26 = .ok (.lstore 7, 2) := by decide +kernel
theorem dX11_chance_28 : decode cX11_chance 28 = .ok (.goto (-22), 3) := by decide +kernel
theorem dX11_chance_31 : decode cX11_chance 31 = .ok (.aload_n 0, 1) := by decide +kernel
theorem dX11_chance_32 : decode cX11_chance 32 = .ok (.lload_n 1, 1) := by decide +kernel
theorem dX11_chance_33 : decode cX11_chance 33 = .ok (.lload 5, 2) := by decide +kernel
theorem dX11_chance_35 : decode cX11_chance 35 = .ok (.ldiv, 1) := by decide +kernel
theorem dX11_chance_36 : decode cX11_chance 36 = .ok (.putfield 219, 3) := by decide +kernel
theorem dX11_chance_39 : decode cX11_chance 39 = .ok (.aload_n 0, 1) := by decide +kernel
theorem dX11_chance_40 : decode cX11_chance 40 = .ok (.lload_n 3, 1) := by decide +kernel
theorem dX11_chance_41 : decode cX11_chance 41 = .ok (.lload 5, 2) := by decide +kernel
theorem dX11_chance_43 : decode cX11_chance 43 = .ok (.ldiv, 1) := by decide +kernel
theorem dX11_chance_44 : decode cX11_chance 44 = .ok (.putfield 50, 3) := by decide +kernel
theorem dX11_chance_47 : decode cX11_chance 47 = .ok (.iconst 1, 1) := by decide +kernel
theorem dX11_chance_48 : decode cX11_chance 48 = .ok (.ireturn, 1) := by decide +kernel
theorem dX11_odds_0 : decode cX11_odds 0 = .ok (.aload_n 0, 1) := by decide +kernel
theorem dX11_odds_1 : decode cX11_odds 1 = .ok (.iload_n 1, 1) := by decide +kernel
theorem dX11_odds_2 : decode cX11_odds 2 = .ok (.invokevirtual 157, 3) := by decide +kernel
theorem dX11_odds_5 : decode cX11_odds 5 = .ok (.ifCond .ne 5, 3) := by decide +kernel
theorem dX11_odds_8 : decode cX11_odds 8 = .ok (.iconst (-1), 1) := by decide +kernel
theorem dX11_odds_9 : decode cX11_odds 9 = .ok (.ireturn, 1) := by decide +kernel
theorem dX11_odds_10 : decode cX11_odds 10 = .ok (.lconst 0, 1) := by decide +kernel
theorem dX11_odds_11 : decode cX11_odds 11 = .ok (.lstore_n 2, 1) := by decide +kernel
theorem dX11_odds_12 : decode cX11_odds 12 = .ok (.lconst 0, 1) := by decide +kernel
theorem dX11_odds_13 : decode cX11_odds 13 = .ok (.lstore 4, 2) := by decide +kernel
theorem dX11_odds_15 : decode cX11_odds 15 = .ok (.iconst 0, 1) := by decide +kernel
theorem dX11_odds_16 : decode cX11_odds 16 = .ok (.istore 6, 2) := by decide +kernel
theorem dX11_odds_18 : decode cX11_odds 18 = .ok (.iload 6, 2) := by decide +kernel
theorem dX11_odds_20 : decode cX11_odds 20 = .ok (.aload_n 0, 1) := by decide +kernel
theorem dX11_odds_21 : decode cX11_odds 21 = .ok (.invokevirtual 212, 3) := by decide +kernel
theorem dX11_odds_24 : decode cX11_odds 24 = .ok (.if_icmp .ge 44, 3) := by decide +kernel
theorem dX11_odds_27 : decode cX11_odds 27 = .ok (.aload_n 0, 1) := by decide +kernel
theorem dX11_odds_28 : decode cX11_odds 28 = .ok (.iload 6, 2) := by decide +kernel
theorem dX11_odds_30 : decode cX11_odds 30 = .ok (.invokevirtual 216, 3) := by decide +kernel
theorem dX11_odds_33 : decode cX11_odds 33 = .ok (.istore 7, 2) := by decide +kernel
theorem dX11_odds_35 : decode cX11_odds 35 = .ok (.lload 4, 2) := by decide +kernel
theorem dX11_odds_37 : decode cX11_odds 37 = .ok (.iload 7, 2) := by decide +kernel
theorem dX11_odds_39 : decode cX11_odds 39 = .ok (.i2l, 1) := by decide +kernel
theorem dX11_odds_40 : decode cX11_odds 40 = .ok (.ladd, 1) := by decide +kernel
theorem dX11_odds_41 : decode cX11_odds 41 = .ok (.lstore 4, 2) := by decide +kernel
theorem dX11_odds_43 : decode cX11_odds 43 = .ok (.lload_n 2, 1) := by decide +kernel
theorem dX11_odds_44 : decode cX11_odds 44 = .ok (.aload_n 0, 1) := by decide +kernel
theorem dX11_odds_45 : decode cX11_odds 45 = .ok (.getfield 57, 3) := by decide +kernel
theorem dX11_odds_48 : decode cX11_odds 48 = .ok (.iload_n 1, 1) := by decide +kernel
theorem dX11_odds_49 : decode cX11_odds 49 = .ok (.iaload, 1) := by decide +kernel
theorem dX11_odds_50 : decode cX11_odds 50 = .ok (.ifCond .eq 9, 3) := by decide +kernel
theorem dX11_odds_53 : decode cX11_odds 53 = .ok (.iload 7, 2) := by decide +kernel
theorem dX11_odds_55 : decode cX11_odds 55 = .ok (.i2l, 1) := by decide +kernel
theorem dX11_odds_56 : decode cX11_odds 56 = .ok (.goto 4, 3) := by decide +kernel
theorem dX11_odds_59 : decode cX11_odds 59 = .ok (.lconst 0, 1) := by decide +kernel
theorem dX11_odds_60 : decode cX11_odds 60 = .ok (.ladd, 1) := by decide +kernel
theorem dX11_odds_61 : decode cX11_odds 61 = .ok (.lstore_n 2, 1) := by decide +kernel
theorem dX11_odds_62 : decode cX11_odds 62 = .ok (.iinc 6 1, 3) := by decide +kernel
theorem dX11_odds_65 : decode cX11_odds 65 = .ok (.goto (-47), 3) := by decide +kernel
theorem dX11_odds_68 : decode cX11_odds 68 = .ok (.lload 4, 2) := by decide +kernel
theorem dX11_odds_70 : decode cX11_odds 70 = .ok (.lconst 0, 1) := by decide +kernel
theorem dX11_odds_71 : decode cX11_odds 71 = .ok (.lcmp, 1) := by decide +kernel
theorem dX11_odds_72 : decode cX11_odds 72 = .ok (.ifCond .ne 11, 3) := by decide +kernel
theorem dX11_odds_75 : decode cX11_odds 75 = .ok (.aload_n 0, 1) := by decide +kernel
theorem dX11_odds_76 : decode cX11_odds 76 = .ok (.iconst 4, 1) := by decide +kernel
theorem dX11_odds_77 : decode cX11_odds 77 = .ok (.invokevirtual 80, 3) := by decide +kernel
theorem dX11_odds_80 : decode cX11_odds 80 = .ok (.goto 10, 3) := by decide +kernel
theorem dX11_odds_83 : decode cX11_odds 83 = .ok (.aload_n 0, 1) := by decide +kernel
theorem dX11_odds_84 : decode cX11_odds 84 = .ok (.lload_n 2, 1) := by decide +kernel
theorem dX11_odds_85 : decode cX11_odds 85 = .ok (.lload 4, 2) := by decide +kernel
theorem dX11_odds_87 : decode cX11_odds 87 = .ok (.invokevirtual 222, 3) := by decide +kernel
theorem dX11_odds_90 : decode cX11_odds 90 = .ok (.ireturn, 1) := by decide +kernel
theorem dX11_isAny_0 : decode cX11_isAny 0 = .ok (.iconst 0, 1) := by decide +kernel
theorem dX11_isAny_1 : decode cX11_isAny 1 = .ok (.istore_n 1, 1) := by decide +kernel
theorem dX11_isAny_2 : decode cX11_isAny 2 = .ok (.iconst 0, 1) := by decide +kernel
theorem dX11_isAny_3 : decode cX11_isAny 3 = .ok (.istore_n 2, 1) := by decide +kernel
theorem dX11_isAny_4 : decode cX11_isAny 4 = .ok (.iload_n 2, 1) := by decide +kernel
theorem dX11_isAny_5 : decode cX11_isAny 5 = .ok (.aload_n 0, 1) := by decide +kernel
theorem dX11_isAny_6 : decode cX11_isAny 6 = .ok (.getfield 116, 3) := by decide +kernel
theorem dX11_isAny_9 : decode cX11_isAny 9 = .ok (.if_icmp .ge 28, 3) := by decide +kernel
theorem dX11_isAny_12 : decode cX11_isAny 12 = .ok (.iload_n 1, 1) := by decide +kernel
theorem dX11_isAny_13 : decode cX11_isAny 13 = .ok (.ifCond .ne 12, 3) := by decide +kernel
theorem dX11_isAny_16 : decode cX11_isAny 16 = .ok (.aload_n 0, 1) := by decide +kernel
theorem dX11_isAny_17 : decode cX11_isAny 17 = .ok (.getfield 57, 3) := by decide +kernel
theorem dX11_isAny_20 : decode cX11_isAny 20 = .ok (.iload_n 2, 1) := by decide +kernel
theorem dX11_isAny_21 : decode cX11_isAny 21 = .ok (.iaload, 1) := by decide +kernel
theorem dX11_isAny_22 : decode cX11_isAny 22 = .ok (.ifCond .eq 7, 3) := by decide +kernel
theorem dX11_isAny_25 : decode cX11_isAny 25 = .ok (.iconst 1, 1) := by decide +kernel
theorem dX11_isAny_26 : decode cX11_isAny 26 = .ok (.goto 4, 3) := by decide +kernel
theorem dX11_isAny_29 : decode cX11_isAny 29 = .ok (.iconst 0, 1) := by decide +kernel
theorem dX11_isAny_30 : decode cX11_isAny 30 = .ok (.istore_n 1, 1) := by decide +kernel
theorem dX11_isAny_31 : decode cX11_isAny 31 = .ok (.iinc 2 1, 3) := by decide +kernel
theorem dX11_isAny_34 : decode cX11_isAny 34 = .ok (.goto (-30), 3) := by decide +kernel
theorem dX11_isAny_37 : decode cX11_isAny 37 = .ok (.iload_n 1, 1) := by decide +kernel
theorem dX11_isAny_38 : decode cX11_isAny 38 = .ok (.ireturn, 1) := by decide +kernel
theorem dX11_self_0 : decode cX11_self 0 = .ok (.aload_n 0, 1) := by decide +kernel
theorem dX11_self_1 : decode cX11_self 1 = .ok (.iload_n 1, 1) := by decide +kernel
theorem dX11_self_2 : decode cX11_self 2 = .ok (.invokevirtual 157, 3) := by decide +kernel
theorem dX11_self_5 : decode cX11_self 5 = .ok (.ifCond .ne 5, 3) := by decide +kernel
theorem dX11_self_8 : decode cX11_self 8 = .ok (.iconst (-1), 1) := by decide +kernel
theorem dX11_self_9 : decode cX11_self 9 = .ok (.ireturn, 1) := by decide +kernel
theorem dX11_self_10 : decode cX11_self 10 = .ok (.lconst 0, 1) := by decide +kernel
theorem dX11_self_11 : decode cX11_self 11 = .ok (.lstore_n 2, 1) := by decide +kernel
theorem dX11_self_12 : decode cX11_self 12 = .ok (.lconst 0, 1) := by decide +kernel
theorem dX11_self_13 : decode cX11_self 13 = .ok (.lstore 4, 2) := by decide +kernel
theorem dX11_self_15 : decode cX11_self 15 = .ok (.iconst 0, 1) := by decide +kernel
theorem dX11_self_16 : decode cX11_self 16 = .ok (.istore 6, 2) := by decide +kernel
theorem dX11_self_18 : decode cX11_self 18 = .ok (.iload 6, 2) := by decide +kernel
theorem dX11_self_20 : decode cX11_self 20 = .ok (.aload_n 0, 1) := by decide +kernel
theorem dX11_self_21 : decode cX11_self 21 = .ok (.invokevirtual 212, 3) := by decide +kernel
theorem dX11_self_24 : decode cX11_self 24 = .ok (.if_icmp .ge 59, 3) := by decide +kernel
theorem dX11_self_27 : decode cX11_self 27 = .ok (.aload_n 0, 1) := by decide +kernel
theorem dX11_self_28 : decode cX11_self 28 = .ok (.iload 6, 2) := by decide +kernel
theorem dX11_self_30 : decode cX11_self 30 = .ok (.invokevirtual 216, 3) := by decide +kernel
theorem dX11_self_33 : decode cX11_self 33 = .ok (.istore 7, 2) := by decide +kernel
theorem dX11_self_35 : decode cX11_self 35 = .ok (.aload_n 0, 1) := by decide +kernel
theorem dX11_self_36 : decode cX11_self 36 = .ok (.getfield 57, 3) := by decide +kernel
theorem dX11_self_39 : decode cX11_self 39 = .ok (.iload_n 1, 1) := by decide +kernel
theorem dX11_self_40 : decode cX11_self 40 = .ok (.iaload, 1) := by decide +kernel
theorem dX11_self_41 : decode cX11_self 41 = .ok (.ifCond .ne 8, 3) := by decide +kernel
theorem dX11_self_44 : decode cX11_self 44 = .ok (.iload 7, 2) := by decide +kernel
theorem dX11_self_46 : decode cX11_self 46 = .ok (.goto 4, 3) := by decide +kernel
theorem dX11_self_49 : decode cX11_self 49 = .ok (.iconst 0, 1) := by decide +kernel
theorem dX11_self_50 : decode cX11_self 50 = .ok (.istore 7, 2) := by decide +kernel
theorem dX11_self_52 : decode cX11_self 52 = .ok (.lload 4, 2) := by decide +kernel
theorem dX11_self_54 : decode cX11_self 54 = .ok (.iload 7, 2) := by decide +kernel
theorem dX11_self_56 : decode cX11_self 56 = .ok (.i2l, 1) := by decide +kernel
theorem dX11_self_57 : decode cX11_self 57 = .ok (.ladd, 1) := by decide +kernel
theorem dX11_self_58 : decode cX11_self 58 = .ok (.lstore 4, 2) := by decide +kernel
theorem dX11_self_60 : decode cX11_self 60 = .ok (.lload_n 2, 1) := by decide +kernel
theorem dX11_self_61 : decode cX11_self 61 = .ok (.aload_n 0, 1) := by decide +kernel
theorem dX11_self_62 : decode cX11_self 62 = .ok (.invokevirtual 226, 3) := by decide +kernel
theorem dX11_self_65 : decode cX11_self 65 = .ok (.ifCond .eq 9, 3) := by decide +kernel
theorem dX11_self_68 : decode cX11_self 68 = .ok (.iload 7, 2) := by decide +kernel
theorem dX11_self_70 : decode cX11_self 70 = .ok (.i2l, 1) := by decide +kernel
theorem dX11_self_71 : decode cX11_self 71 = .ok (.goto 4, 3) := by decide +kernel
theorem dX11_self_74 : decode cX11_self 74 = .ok (.lconst 0, 1) := by decide +kernel
theorem dX11_self_75 : decode cX11_self 75 = .ok (.ladd, 1) := by decide +kernel
theorem dX11_self_76 : decode cX11_self 76 = .ok (.lstore_n 2, 1) := by decide +kernel
theorem dX11_self_77 : decode cX11_self 77 = .ok (.iinc 6 1, 3) := by decide +kernel
theorem dX11_self_80 : decode cX11_self 80 = .ok (.goto (-62), 3) := by decide +kernel
theorem dX11_self_83 : decode cX11_self 83 = .ok (.lload 4, 2) := by decide +kernel
theorem dX11_self_85 : decode cX11_self 85 = .ok (.lconst 0, 1) := by decide +kernel
theorem dX11_self_86 : decode cX11_self 86 = .ok (.lcmp, 1) := by decide +kernel
theorem dX11_self_87 : decode cX11_self 87 = .ok (.ifCond .ne 11, 3) := by decide +kernel
theorem dX11_self_90 : decode cX11_self 90 = .ok (.aload_n 0, 1) := by decide +kernel
theorem dX11_self_91 : decode cX11_self 91 = .ok (.iconst 4, 1) := by decide +kernel
theorem dX11_self_92 : decode cX11_self 92 = .ok (.invokevirtual 80, 3) := by decide +kernel
theorem dX11_self_95 : decode cX11_self 95 = .ok (.goto 10, 3) := by decide +kernel
theorem dX11_self_98 : decode cX11_self 98 = .ok (.aload_n 0, 1) := by decide +kernel
theorem dX11_self_99 : decode cX11_self 99 = .ok (.lload_n 2, 1) := by decide +kernel
theorem dX11_self_100 : decode cX11_self 100 = .ok (.lload 4, 2) := by decide +kernel
theorem dX11_self_102 : decode cX11_self 102 = .ok (.invokevirtual 222, 3) := by decide +kernel
theorem dX11_self_105 : decode cX11_self 105 = .ok (.ireturn, 1) := by decide +kernel
theorem dX11_who_0 : decode cX11_who 0 = .ok (.aload_n 0, 1) := by decide +kernel
theorem dX11_who_1 : decode cX11_who 1 = .ok (.getfield 119, 3) := by decide +kernel
theorem dX11_who_4 : decode cX11_who 4 = .ok (.ifCond .ne 6, 3) := by decide +kernel
theorem dX11_who_7 : decode cX11_who 7 = .ok (.bipush (-4), 2) := by decide +kernel
theorem dX11_who_9 : decode cX11_who 9 = .ok (.ireturn, 1) := by decide +kernel
theorem dX11_who_10 : decode cX11_who 10 = .ok (.bipush (-9), 2) := by decide +kernel
theorem dX11_who_12 : decode cX11_who 12 = .ok (.istore_n 1, 1) := by decide +kernel
theorem dX11_who_13 : decode cX11_who 13 = .ok (.iconst 0, 1) := by decide +kernel
theorem dX11_who_14 : decode cX11_who 14 = .ok (.istore_n 2, 1) := by decide +kernel
theorem dX11_who_15 : decode cX11_who 15 = .ok (.lconst 0, 1) := by decide +kernel
theorem dX11_who_16 : decode cX11_who 16 = .ok (.lstore_n 3, 1) := by decide +kernel
theorem dX11_who_17 : decode cX11_who 17 = .ok (.lconst 0, 1) := by decide +kernel
theorem dX11_who_18 : decode cX11_who 18 = .ok (.lstore 5, 2) := by decide +kernel
theorem dX11_who_20 : decode cX11_who 20 = .ok (.iconst 0, 1) := by decide +kernel
theorem dX11_who_21 : decode cX11_who 21 = .ok (.istore 7, 2) := by decide +kernel
theorem dX11_who_23 : decode cX11_who 23 = .ok (.iload 7, 2) := by decide +kernel
theorem dX11_who_25 : decode cX11_who 25 = .ok (.aload_n 0, 1) := by decide +kernel
theorem dX11_who_26 : decode cX11_who 26 = .ok (.getfield 116, 3) := by decide +kernel
theorem dX11_who_29 : decode cX11_who 29 = .ok (.if_icmp .ge 160, 3) := by decide +kernel
theorem dX11_who_32 : decode cX11_who 32 = .ok (.iconst 0, 1) := by decide +kernel
theorem dX11_who_33 : decode cX11_who 33 = .ok (.istore 8, 2) := by decide +kernel
theorem dX11_who_35 : decode cX11_who 35 = .ok (.iload 8, 2) := by decide +kernel
theorem dX11_who_37 : decode cX11_who 37 = .ok (.iconst 5, 1) := by decide +kernel
theorem dX11_who_38 : decode cX11_who 38 = .ok (.if_icmp .ge 17, 3) := by decide +kernel
theorem dX11_who_41 : decode cX11_who 41 = .ok (.aload_n 0, 1) := by decide +kernel
theorem dX11_who_42 : decode cX11_who 42 = .ok (.getfield 63, 3) := by decide +kernel
theorem dX11_who_45 : decode cX11_who 45 = .ok (.iload 8, 2) := by decide +kernel
theorem dX11_who_47 : decode cX11_who 47 = .ok (.lconst 0, 1) := by decide +kernel
theorem dX11_who_48 : decode cX11_who 48 = .ok (.lastore, 1) := by decide +kernel
theorem dX11_who_49 : decode cX11_who 49 = .ok (.iinc 8 1, 3) := by decide +kernel
theorem dX11_who_52 : decode cX11_who 52 = .ok (.goto (-17), 3) := by decide +kernel
theorem dX11_who_55 : decode cX11_who 55 = .ok (.lconst 0, 1) := by decide +kernel
theorem dX11_who_56 : decode cX11_who 56 = .ok (.lstore 5, 2) := by decide +kernel
theorem dX11_who_58 : decode cX11_who 58 = .ok (.iconst 0, 1) := by decide +kernel
theorem dX11_who_59 : decode cX11_who 59 = .ok (.istore 8, 2) := by decide +kernel
theorem dX11_who_61 : decode cX11_who 61 = .ok (.iload 8, 2) := by decide +kernel
theorem dX11_who_63 : decode cX11_who 63 = .ok (.aload_n 0, 1) := by decide +kernel
theorem dX11_who_64 : decode cX11_who 64 = .ok (.invokevirtual 212, 3) := by decide +kernel
theorem dX11_who_67 : decode cX11_who 67 = .ok (.if_icmp .ge 45, 3) := by decide +kernel
theorem dX11_who_70 : decode cX11_who 70 = .ok (.aload_n 0, 1) := by decide +kernel
theorem dX11_who_71 : decode cX11_who 71 = .ok (.iload 8, 2) := by decide +kernel
theorem dX11_who_73 : decode cX11_who 73 = .ok (.invokevirtual 216, 3) := by decide +kernel
theorem dX11_who_76 : decode cX11_who 76 = .ok (.istore 9, 2) := by decide +kernel
theorem dX11_who_78 : decode cX11_who 78 = .ok (.lload 5, 2) := by decide +kernel
theorem dX11_who_80 : decode cX11_who 80 = .ok (.iload 9, 2) := by decide +kernel
theorem dX11_who_82 : decode cX11_who 82 = .ok (.i2l, 1) := by decide +kernel
theorem dX11_who_83 : decode cX11_who 83 = .ok (.ladd, 1) := by decide +kernel
theorem dX11_who_84 : decode cX11_who 84 = .ok (.lstore 5, 2) := by decide +kernel
theorem dX11_who_86 : decode cX11_who 86 = .ok (.aload_n 0, 1) := by decide +kernel
theorem dX11_who_87 : decode cX11_who 87 = .ok (.getfield 63, 3) := by decide +kernel
theorem dX11_who_90 : decode cX11_who 90 = .ok (.aload_n 0, 1) := by decide +kernel
theorem dX11_who_91 : decode cX11_who 91 = .ok (.getfield 57, 3) := by decide +kernel
theorem dX11_who_94 : decode cX11_who 94 = .ok (.iload 7, 2) := by decide +kernel
theorem dX11_who_96 : decode cX11_who 96 = .ok (.iaload, 1) := by decide +kernel
theorem dX11_who_97 : decode cX11_who 97 = .ok (.iconst 2, 1) := by decide +kernel
theorem dX11_who_98 : decode cX11_who 98 = .ok (.iadd, 1) := by decide +kernel
theorem dX11_who_99 : decode cX11_who 99 = .ok (.dup2, 1) := by decide +kernel
theorem dX11_who_100 : decode cX11_who 100 = .ok (.laload, 1) := by decide +kernel
theorem dX11_who_101 : decode cX11_who 101 = .ok (.iload 9, 2) := by decide +kernel
theorem dX11_who_103 : decode cX11_who 103 = .ok (.i2l, 1) := by decide +kernel
theorem dX11_who_104 : decode cX11_who 104 = .ok (.ladd, 1) := by decide +kernel
theorem dX11_who_105 : decode cX11_who 105 = .ok (.lastore, 1) := by decide +kernel
theorem dX11_who_106 : decode cX11_who 106 = .ok (.iinc 8 1, 3) := by decide +kernel
theorem dX11_who_109 : decode cX11_who 109 = .ok (.goto (-48), 3) := by decide +kernel
theorem dX11_who_112 : decode cX11_who 112 = .ok (.lload 5, 2) := by decide +kernel
theorem dX11_who_114 : decode cX11_who 114 = .ok (.aload_n 0, 1) := by decide +kernel
theorem dX11_who_115 : decode cX11_who 115 = .ok (.getfield 63, 3) := by decide +kernel
theorem dX11_who_118 : decode cX11_who 118 = .ok (.iconst 2, 1) := by decide +kernel
theorem dX11_who_119 : decode cX11_who 119 = .ok (.laload, 1) := by decide +kernel
theorem dX11_who_120 : decode cX11_who 120 = .ok (.lsub, 1) := by decide +kernel
theorem dX11_who_121 : decode cX11_who 121 = .ok (.lstore 8, 2) := by decide +kernel
theorem dX11_who_123 : decode cX11_who 123 = .ok (.lload 8, 2) := by decide +kernel
theorem dX11_who_125 : decode cX11_who 125 = .ok (.lload_n 3, 1) := by decide +kernel
theorem dX11_who_126 : decode cX11_who 126 = .ok (.lcmp, 1) := by decide +kernel
theorem dX11_who_127 : decode cX11_who 127 = .ok (.ifCond .le 56, 3) := by decide +kernel
theorem dX11_who_130 : decode cX11_who 130 = .ok (.lload 8, 2) := by decide +kernel
theorem dX11_who_132 : decode cX11_who 132 = .ok (.lstore_n 3, 1) := by decide +kernel
theorem dX11_who_133 : decode cX11_who 133 = .ok (.iload 7, 2) := by decide +kernel
theorem dX11_who_135 : decode cX11_who 135 = .ok (.istore_n 1, 1) := by decide +kernel
theorem dX11_who_136 : decode cX11_who 136 = .ok (.iconst 0, 1) := by decide +kernel
theorem dX11_who_137 : decode cX11_who 137 = .ok (.istore_n 2, 1) := by decide +kernel
theorem dX11_who_138 : decode cX11_who 138 = .ok (.iconst 1, 1) := by decide +kernel
theorem dX11_who_139 : decode cX11_who 139 = .ok (.istore 10, 2) := by decide +kernel
theorem dX11_who_141 : decode cX11_who 141 = .ok (.iload 10, 2) := by decide +kernel
theorem dX11_who_143 : decode cX11_who 143 = .ok (.iconst 5, 1) := by decide +kernel
theorem dX11_who_144 : decode cX11_who 144 = .ok (.if_icmp .ge 39, 3) := by decide +kernel
theorem dX11_who_147 : decode cX11_who 147 = .ok (.iload 10, 2) := by decide +kernel
theorem dX11_who_149 : decode cX11_who 149 = .ok (.iconst 2, 1) := by decide +kernel
theorem dX11_who_150 : decode cX11_who 150 = .ok (.if_icmp .eq 25, 3) := by decide +kernel
theorem dX11_who_153 : decode cX11_who 153 = .ok (.aload_n 0, 1) := by decide +kernel
theorem dX11_who_154 : decode cX11_who 154 = .ok (.getfield 63, 3) := by decide +kernel
theorem dX11_who_157 : decode cX11_who 157 = .ok (.iload 10, 2) := by decide +kernel
theorem dX11_who_159 : decode cX11_who 159 = .ok (.laload, 1) := by decide +kernel
theorem dX11_who_160 : decode cX11_who 160 = .ok (.aload_n 0, 1) := by decide +kernel
theorem dX11_who_161 : decode cX11_who 161 = .ok (.getfield 63, 3) := by decide +kernel
theorem dX11_who_164 : decode cX11_who 164 = .ok (.iload_n 2, 1) := by decide +kernel
theorem dX11_who_165 : decode cX11_who 165 = .ok (.laload, 1) := by decide +kernel
theorem dX11_who_166 : decode cX11_who 166 = .ok (.lcmp, 1) := by decide +kernel
theorem dX11_who_167 : decode cX11_who 167 = .ok (.ifCond .le 8, 3) := by decide +kernel
theorem dX11_who_170 : decode cX11_who 170 = .ok (.iload 10, 2) := by decide +kernel
theorem dX11_who_172 : decode cX11_who 172 = .ok (.goto 4, 3) := by decide +kernel
theorem dX11_who_175 : decode cX11_who 175 = .ok (.iload_n 2, 1) := by decide +kernel
theorem dX11_who_176 : decode cX11_who 176 = .ok (.istore_n 2, 1) := by decide +kernel
theorem dX11_who_177 : decode cX11_who 177 = .ok (.iinc 10 1, 3) := by decide +kernel
theorem dX11_who_180 : decode cX11_who 180 = .ok (.goto (-39), 3) := by decide +kernel
theorem dX11_who_183 : decode cX11_who 183 = .ok (.iinc 7 1, 3) := by decide +kernel
theorem dX11_who_186 : decode cX11_who 186 = .ok (.goto (-163), 3) := by decide +kernel
theorem dX11_who_189 : decode cX11_who 189 = .ok (.lload 5, 2) := by decide +kernel
theorem dX11_who_191 : decode cX11_who 191 = .ok (.lconst 0, 1) := by decide +kernel
theorem dX11_who_192 : decode cX11_who 192 = .ok (.lcmp, 1) := by decide +kernel
theorem dX11_who_193 : decode cX11_who 193 = .ok (.ifCond .ne 9, 3) := by decide +kernel
theorem dX11_who_196 : decode cX11_who 196 = .ok (.aload_n 0, 1) := by decide +kernel
theorem dX11_who_197 : decode cX11_who 197 = .ok (.iconst 4, 1) := by decide +kernel
theorem dX11_who_198 : decode cX11_who 198 = .ok (.invokevirtual 80, 3) := by decide +kernel
theorem dX11_who_201 : decode cX11_who 201 = .ok (.ireturn, 1) := by decide +kernel
theorem dX11_who_202 : decode cX11_who 202 = .ok (.iload_n 1, 1) := by decide +kernel
theorem dX11_who_203 : decode cX11_who 203 = .ok (.ifCond .ge 8, 3) := by decide +kernel
theorem dX11_who_206 : decode cX11_who 206 = .ok (.bipush (-9), 2) := by decide +kernel
theorem dX11_who_208 : decode cX11_who 208 = .ok (.goto 9, 3) := by decide +kernel
theorem dX11_who_211 : decode cX11_who 211 = .ok (.aload_n 0, 1) := by decide +kernel
theorem dX11_who_212 : decode cX11_who 212 = .ok (.iload_n 2, 1) := by decide +kernel
theorem dX11_who_213 : decode cX11_who 213 = .ok (.iload_n 1, 1) := by decide +kernel
theorem dX11_who_214 : decode cX11_who 214 = .ok (.invokevirtual 84, 3) := by decide +kernel
theorem dX11_who_217 : decode cX11_who 217 = .ok (.ireturn, 1) := by decide +kernel
theorem dX11_likely_0 : decode cX11_likely 0 = .ok (.aload_n 0, 1) := by decide +kernel
theorem dX11_likely_1 : decode cX11_likely 1 = .ok (.getfield 119, 3) := by decide +kernel
theorem dX11_likely_4 : decode cX11_likely 4 = .ok (.ifCond .ne 6, 3) := by decide +kernel
theorem dX11_likely_7 : decode cX11_likely 7 = .ok (.bipush (-4), 2) := by decide +kernel
theorem dX11_likely_9 : decode cX11_likely 9 = .ok (.ireturn, 1) := by decide +kernel
theorem dX11_likely_10 : decode cX11_likely 10 = .ok (.bipush (-9), 2) := by decide +kernel
theorem dX11_likely_12 : decode cX11_likely 12 = .ok (.istore_n 1, 1) := by decide +kernel
theorem dX11_likely_13 : decode cX11_likely 13 = .ok (.iconst 0, 1) := by decide +kernel
theorem dX11_likely_14 : decode cX11_likely 14 = .ok (.istore_n 2, 1) := by decide +kernel
theorem dX11_likely_15 : decode cX11_likely 15 = .ok (.iconst 0, 1) := by decide +kernel
theorem dX11_likely_16 : decode cX11_likely 16 = .ok (.istore_n 3, 1) := by decide +kernel
theorem dX11_likely_17 : decode cX11_likely 17 = .ok (.iload_n 3, 1) := by decide +kernel
theorem dX11_likely_18 : decode cX11_likely 18 = .ok (.aload_n 0, 1) := by decide +kernel
theorem dX11_likely_19 : decode cX11_likely 19 = .ok (.invokevirtual 212, 3) := by decide +kernel
theorem dX11_likely_22 : decode cX11_likely 22 = .ok (.if_icmp .ge 41, 3) := by decide +kernel
theorem dX11_likely_25 : decode cX11_likely 25 = .ok (.aload_n 0, 1) := by decide +kernel
theorem dX11_likely_26 : decode cX11_likely 26 = .ok (.iload_n 3, 1) := by decide +kernel
theorem dX11_likely_27 : decode cX11_likely 27 = .ok (.invokevirtual 216, 3) := by decide +kernel
theorem dX11_likely_30 : decode cX11_likely 30 = .ok (.istore 4, 2) := by decide +kernel
theorem dX11_likely_32 : decode cX11_likely 32 = .ok (.iload 4, 2) := by decide +kernel
theorem dX11_likely_34 : decode cX11_likely 34 = .ok (.iload_n 2, 1) := by decide +kernel
theorem dX11_likely_35 : decode cX11_likely 35 = .ok (.if_icmp .le 7, 3) := by decide +kernel
theorem dX11_likely_38 : decode cX11_likely 38 = .ok (.iload_n 3, 1) := by decide +kernel
theorem dX11_likely_39 : decode cX11_likely 39 = .ok (.goto 4, 3) := by decide +kernel
theorem dX11_likely_42 : decode cX11_likely 42 = .ok (.iload_n 1, 1) := by decide +kernel
theorem dX11_likely_43 : decode cX11_likely 43 = .ok (.istore_n 1, 1) := by decide +kernel
theorem dX11_likely_44 : decode cX11_likely 44 = .ok (.iload 4, 2) := by decide +kernel
theorem dX11_likely_46 : decode cX11_likely 46 = .ok (.iload_n 2, 1) := by decide +kernel
theorem dX11_likely_47 : decode cX11_likely 47 = .ok (.if_icmp .le 8, 3) := by decide +kernel
theorem dX11_likely_50 : decode cX11_likely 50 = .ok (.iload 4, 2) := by decide +kernel
theorem dX11_likely_52 : decode cX11_likely 52 = .ok (.goto 4, 3) := by decide +kernel
theorem dX11_likely_55 : decode cX11_likely 55 = .ok (.iload_n 2, 1) := by decide +kernel
theorem dX11_likely_56 : decode cX11_likely 56 = .ok (.istore_n 2, 1) := by decide +kernel
theorem dX11_likely_57 : decode cX11_likely 57 = .ok (.iinc 3 1, 3) := by decide +kernel
theorem dX11_likely_60 : decode cX11_likely 60 = .ok (.goto (-43), 3) := by decide +kernel
theorem dX11_likely_63 : decode cX11_likely 63 = .ok (.iload_n 1, 1) := by decide +kernel
theorem dX11_likely_64 : decode cX11_likely 64 = .ok (.ireturn, 1) := by decide +kernel
theorem dX11_isSlip_0 : decode cX11_isSlip 0 = .ok (.iconst 1, 1) := by decide +kernel
theorem dX11_isSlip_1 : decode cX11_isSlip 1 = .ok (.istore 4, 2) := by decide +kernel
theorem dX11_isSlip_3 : decode cX11_isSlip 3 = .ok (.iconst 0, 1) := by decide +kernel
theorem dX11_isSlip_4 : decode cX11_isSlip 4 = .ok (.istore 5, 2) := by decide +kernel
theorem dX11_isSlip_6 : decode cX11_isSlip 6 = .ok (.iload 5, 2) := by decide +kernel
theorem dX11_isSlip_8 : decode cX11_isSlip 8 = .ok (.aload_n 0, 1) := by decide +kernel
theorem dX11_isSlip_9 : decode cX11_isSlip 9 = .ok (.getfield 182, 3) := by decide +kernel
theorem dX11_isSlip_12 : decode cX11_isSlip 12 = .ok (.if_icmp .ge 63, 3) := by decide +kernel
theorem dX11_isSlip_15 : decode cX11_isSlip 15 = .ok (.iload 4, 2) := by decide +kernel
theorem dX11_isSlip_17 : decode cX11_isSlip 17 = .ok (.ifCond .eq 58, 3) := by decide +kernel
theorem dX11_isSlip_20 : decode cX11_isSlip 20 = .ok (.aload_n 0, 1) := by decide +kernel
theorem dX11_isSlip_21 : decode cX11_isSlip 21 = .ok (.invokevirtual 140, 3) := by decide +kernel
theorem dX11_isSlip_24 : decode cX11_isSlip 24 = .ok (.aload_n 0, 1) := by decide +kernel
theorem dX11_isSlip_25 : decode cX11_isSlip 25 = .ok (.getfield 57, 3) := by decide +kernel
theorem dX11_isSlip_28 : decode cX11_isSlip 28 = .ok (.iload_n 1, 1) := by decide +kernel
theorem dX11_isSlip_29 : decode cX11_isSlip 29 = .ok (.iload 5, 2) := by decide +kernel
theorem dX11_isSlip_31 : decode cX11_isSlip 31 = .ok (.iload_n 3, 1) := by decide +kernel
theorem dX11_isSlip_32 : decode cX11_isSlip 32 = .ok (.if_icmp .ge 7, 3) := by decide +kernel
theorem dX11_isSlip_35 : decode cX11_isSlip 35 = .ok (.iconst 0, 1) := by decide +kernel
theorem dX11_isSlip_36 : decode cX11_isSlip 36 = .ok (.goto 4, 3) := by decide +kernel
theorem dX11_isSlip_39 : decode cX11_isSlip 39 = .ok (.iload_n 2, 1) := by decide +kernel
theorem dX11_isSlip_40 : decode cX11_isSlip 40 = .ok (.iastore, 1) := by decide +kernel
theorem dX11_isSlip_41 : decode cX11_isSlip 41 = .ok (.aload_n 0, 1) := by decide +kernel
theorem dX11_isSlip_42 : decode cX11_isSlip 42 = .ok (.aload_n 0, 1) := by decide +kernel
theorem dX11_isSlip_43 : decode cX11_isSlip 43 = .ok (.getfield 179, 3) := by decide +kernel
theorem dX11_isSlip_46 : decode cX11_isSlip 46 = .ok (.iload 5, 2) := by decide +kernel
theorem dX11_isSlip_48 : decode cX11_isSlip 48 = .ok (.iadd, 1) := by decide +kernel
theorem dX11_isSlip_49 : decode cX11_isSlip 49 = .ok (.invokevirtual 143, 3) := by decide +kernel
theorem dX11_isSlip_52 : decode cX11_isSlip 52 = .ok (.aload_n 0, 1) := by decide +kernel
theorem dX11_isSlip_53 : decode cX11_isSlip 53 = .ok (.getfield 47, 3) := by decide +kernel
theorem dX11_isSlip_56 : decode cX11_isSlip 56 = .ok (.iload 5, 2) := by decide +kernel
theorem dX11_isSlip_58 : decode cX11_isSlip 58 = .ok (.iaload, 1) := by decide +kernel
theorem dX11_isSlip_59 : decode cX11_isSlip 59 = .ok (.if_icmp .ne 7, 3) := by decide +kernel
theorem dX11_isSlip_62 : decode cX11_isSlip 62 = .ok (.iconst 1, 1) := by decide +kernel
theorem dX11_isSlip_63 : decode cX11_isSlip 63 = .ok (.goto 4, 3) := by decide +kernel
theorem dX11_isSlip_66 : decode cX11_isSlip 66 = .ok (.iconst 0, 1) := by decide +kernel
theorem dX11_isSlip_67 : decode cX11_isSlip 67 = .ok (.istore 4, 2) := by decide +kernel
theorem dX11_isSlip_69 : decode cX11_isSlip 69 = .ok (.iinc 5 1, 3) := by decide +kernel
theorem dX11_isSlip_72 : decode cX11_isSlip 72 = .ok (.goto (-66), 3) := by decide +kernel
theorem dX11_isSlip_75 : decode cX11_isSlip 75 = .ok (.iload 4, 2) := by decide +kernel
theorem dX11_isSlip_77 : decode cX11_isSlip 77 = .ok (.ireturn, 1) := by decide +kernel
theorem dX11_began_0 : decode cX11_began 0 = .ok (.aload_n 0, 1) := by decide +kernel
theorem dX11_began_1 : decode cX11_began 1 = .ok (.getfield 119, 3) := by decide +kernel
theorem dX11_began_4 : decode cX11_began 4 = .ok (.ifCond .ne 6, 3) := by decide +kernel
theorem dX11_began_7 : decode cX11_began 7 = .ok (.bipush (-4), 2) := by decide +kernel
theorem dX11_began_9 : decode cX11_began 9 = .ok (.ireturn, 1) := by decide +kernel
theorem dX11_began_10 : decode cX11_began 10 = .ok (.iconst 0, 1) := by decide +kernel
theorem dX11_began_11 : decode cX11_began 11 = .ok (.istore_n 1, 1) := by decide +kernel
theorem dX11_began_12 : decode cX11_began 12 = .ok (.iconst 0, 1) := by decide +kernel
theorem dX11_began_13 : decode cX11_began 13 = .ok (.istore_n 2, 1) := by decide +kernel
theorem dX11_began_14 : decode cX11_began 14 = .ok (.iconst 0, 1) := by decide +kernel
theorem dX11_began_15 : decode cX11_began 15 = .ok (.istore_n 3, 1) := by decide +kernel
theorem dX11_began_16 : decode cX11_began 16 = .ok (.iload_n 3, 1) := by decide +kernel
theorem dX11_began_17 : decode cX11_began 17 = .ok (.aload_n 0, 1) := by decide +kernel
theorem dX11_began_18 : decode cX11_began 18 = .ok (.getfield 116, 3) := by decide +kernel
theorem dX11_began_21 : decode cX11_began 21 = .ok (.if_icmp .ge 69, 3) := by decide +kernel
theorem dX11_began_24 : decode cX11_began 24 = .ok (.iconst (-1), 1) := by decide +kernel
theorem dX11_began_25 : decode cX11_began 25 = .ok (.istore 4, 2) := by decide +kernel
theorem dX11_began_27 : decode cX11_began 27 = .ok (.iload 4, 2) := by decide +kernel
theorem dX11_began_29 : decode cX11_began 29 = .ok (.iconst 2, 1) := by decide +kernel
theorem dX11_began_30 : decode cX11_began 30 = .ok (.if_icmp .ge 54, 3) := by decide +kernel
theorem dX11_began_33 : decode cX11_began 33 = .ok (.iconst 0, 1) := by decide +kernel
theorem dX11_began_34 : decode cX11_began 34 = .ok (.istore 5, 2) := by decide +kernel
theorem dX11_began_36 : decode cX11_began 36 = .ok (.iload 5, 2) := by decide +kernel
theorem dX11_began_38 : decode cX11_began 38 = .ok (.aload_n 0, 1) := by decide +kernel
theorem dX11_began_39 : decode cX11_began 39 = .ok (.getfield 182, 3) := by decide +kernel
theorem dX11_began_42 : decode cX11_began 42 = .ok (.if_icmp .ge 36, 3) := by decide +kernel
theorem dX11_began_45 : decode cX11_began 45 = .ok (.aload_n 0, 1) := by decide +kernel
theorem dX11_began_46 : decode cX11_began 46 = .ok (.iload_n 3, 1) := by decide +kernel
theorem dX11_began_47 : decode cX11_began 47 = .ok (.iload 4, 2) := by decide +kernel
theorem dX11_began_49 : decode cX11_began 49 = .ok (.iload 5, 2) := by decide +kernel
theorem dX11_began_51 : decode cX11_began 51 = .ok (.invokevirtual 229, 3) := by decide +kernel
theorem dX11_began_54 : decode cX11_began 54 = .ok (.ifCond .eq 18, 3) := by decide +kernel
theorem dX11_began_57 : decode cX11_began 57 = .ok (.iinc 1 1, 3) := by decide +kernel
theorem dX11_began_60 : decode cX11_began 60 = .ok (.iload_n 2, 1) := by decide +kernel
theorem dX11_began_61 : decode cX11_began 61 = .ok (.iconst 1, 1) := by decide +kernel
theorem dX11_began_62 : decode cX11_began 62 = .ok (.aload_n 0, 1) := by decide +kernel
theorem dX11_began_63 : decode cX11_began 63 = .ok (.getfield 179, 3) := by decide +kernel
theorem dX11_began_66 : decode cX11_began 66 = .ok (.iload 5, 2) := by decide +kernel
theorem dX11_began_68 : decode cX11_began 68 = .ok (.iadd, 1) := by decide +kernel
theorem dX11_began_69 : decode cX11_began 69 = .ok (.ishl, 1) := by decide +kernel
theorem dX11_began_70 : decode cX11_began 70 = .ok (.ior, 1) := by decide +kernel
theorem dX11_began_71 : decode cX11_began 71 = .ok (.istore_n 2, 1) := by decide +kernel
theorem dX11_began_72 : decode cX11_began 72 = .ok (.iinc 5 1, 3) := by decide +kernel
theorem dX11_began_75 : decode cX11_began 75 = .ok (.goto (-39), 3) := by decide +kernel
theorem dX11_began_78 : decode cX11_began 78 = .ok (.iinc 4 2, 3) := by decide +kernel
theorem dX11_began_81 : decode cX11_began 81 = .ok (.goto (-54), 3) := by decide +kernel
theorem dX11_began_84 : decode cX11_began 84 = .ok (.iinc 3 1, 3) := by decide +kernel
theorem dX11_began_87 : decode cX11_began 87 = .ok (.goto (-71), 3) := by decide +kernel
theorem dX11_began_90 : decode cX11_began 90 = .ok (.aload_n 0, 1) := by decide +kernel
theorem dX11_began_91 : decode cX11_began 91 = .ok (.iload_n 2, 1) := by decide +kernel
theorem dX11_began_92 : decode cX11_began 92 = .ok (.iload_n 1, 1) := by decide +kernel
theorem dX11_began_93 : decode cX11_began 93 = .ok (.invokevirtual 84, 3) := by decide +kernel
theorem dX11_began_96 : decode cX11_began 96 = .ok (.ireturn, 1) := by decide +kernel
theorem dX11_tellsOf_0 : decode cX11_tellsOf 0 = .ok (.lconst 0, 1) := by decide +kernel
theorem dX11_tellsOf_1 : decode cX11_tellsOf 1 = .ok (.lstore_n 2, 1) := by decide +kernel
theorem dX11_tellsOf_2 : decode cX11_tellsOf 2 = .ok (.iconst 0, 1) := by decide +kernel
theorem dX11_tellsOf_3 : decode cX11_tellsOf 3 = .ok (.istore 4, 2) := by decide +kernel
theorem dX11_tellsOf_5 : decode cX11_tellsOf 5 = .ok (.iconst 0, 1) := by decide +kernel
theorem dX11_tellsOf_6 : decode cX11_tellsOf 6 = .ok (.istore 5, 2) := by decide +kernel
theorem dX11_tellsOf_8 : decode cX11_tellsOf 8 = .ok (.iload 5, 2) := by decide +kernel
theorem dX11_tellsOf_10 : decode cX11_tellsOf 10 = .ok (.aload_n 0, 1) := by decide +kernel
theorem dX11_tellsOf_11 : decode cX11_tellsOf 11 = .ok (.invokevirtual 212, 3) := by decide +kernel
theorem dX11_tellsOf_14 : decode cX11_tellsOf 14 = .ok (.if_icmp .ge 57, 3) := by decide +kernel
theorem dX11_tellsOf_17 : decode cX11_tellsOf 17 = .ok (.aload_n 0, 1) := by decide +kernel
theorem dX11_tellsOf_18 : decode cX11_tellsOf 18 = .ok (.iload 5, 2) := by decide +kernel
theorem dX11_tellsOf_20 : decode cX11_tellsOf 20 = .ok (.invokevirtual 209, 3) := by decide +kernel
theorem dX11_tellsOf_23 : decode cX11_tellsOf 23 = .ok (.istore 6, 2) := by decide +kernel
theorem dX11_tellsOf_25 : decode cX11_tellsOf 25 = .ok (.aload_n 0, 1) := by decide +kernel
theorem dX11_tellsOf_26 : decode cX11_tellsOf 26 = .ok (.iload_n 1, 1) := by decide +kernel
theorem dX11_tellsOf_27 : decode cX11_tellsOf 27 = .ok (.invokevirtual 143, 3) := by decide +kernel
theorem dX11_tellsOf_30 : decode cX11_tellsOf 30 = .ok (.istore 7, 2) := by decide +kernel
theorem dX11_tellsOf_32 : decode cX11_tellsOf 32 = .ok (.iload 4, 2) := by decide +kernel
theorem dX11_tellsOf_34 : decode cX11_tellsOf 34 = .ok (.iload 6, 2) := by decide +kernel
theorem dX11_tellsOf_36 : decode cX11_tellsOf 36 = .ok (.ifCond .le 18, 3) := by decide +kernel
theorem dX11_tellsOf_39 : decode cX11_tellsOf 39 = .ok (.lload_n 2, 1) := by decide +kernel
theorem dX11_tellsOf_40 : decode cX11_tellsOf 40 = .ok (.iload 7, 2) := by decide +kernel
theorem dX11_tellsOf_42 : decode cX11_tellsOf 42 = .ok (.lshr, 1) := by decide +kernel
theorem dX11_tellsOf_43 : decode cX11_tellsOf 43 = .ok (.lconst 1, 1) := by decide +kernel
theorem dX11_tellsOf_44 : decode cX11_tellsOf 44 = .ok (.land, 1) := by decide +kernel
theorem dX11_tellsOf_45 : decode cX11_tellsOf 45 = .ok (.lconst 0, 1) := by decide +kernel
theorem dX11_tellsOf_46 : decode cX11_tellsOf 46 = .ok (.lcmp, 1) := by decide +kernel
theorem dX11_tellsOf_47 : decode cX11_tellsOf 47 = .ok (.ifCond .ne 7, 3) := by decide +kernel
theorem dX11_tellsOf_50 : decode cX11_tellsOf 50 = .ok (.iconst 1, 1) := by decide +kernel
theorem dX11_tellsOf_51 : decode cX11_tellsOf 51 = .ok (.goto 4, 3) := by decide +kernel
theorem dX11_tellsOf_54 : decode cX11_tellsOf 54 = .ok (.iconst 0, 1) := by decide +kernel
theorem dX11_tellsOf_55 : decode cX11_tellsOf 55 = .ok (.iadd, 1) := by decide +kernel
theorem dX11_tellsOf_56 : decode cX11_tellsOf 56 = .ok (.istore 4, 2) := by decide +kernel
theorem dX11_tellsOf_58 : decode cX11_tellsOf 58 = .ok (.lload_n 2, 1) := by decide +kernel
theorem dX11_tellsOf_59 : decode cX11_tellsOf 59 = .ok (.lconst 1, 1) := by decide +kernel
theorem dX11_tellsOf_60 : decode cX11_tellsOf 60 = .ok (.iload 7, 2) := by decide +kernel
theorem dX11_tellsOf_62 : decode cX11_tellsOf 62 = .ok (.lshl, 1) := by decide +kernel
theorem dX11_tellsOf_63 : decode cX11_tellsOf 63 = .ok (.lor, 1) := by decide +kernel
theorem dX11_tellsOf_64 : decode cX11_tellsOf 64 = .ok (.lstore_n 2, 1) := by decide +kernel
theorem dX11_tellsOf_65 : decode cX11_tellsOf 65 = .ok (.iinc 5 1, 3) := by decide +kernel
theorem dX11_tellsOf_68 : decode cX11_tellsOf 68 = .ok (.goto (-60), 3) := by decide +kernel
theorem dX11_tellsOf_71 : decode cX11_tellsOf 71 = .ok (.iload 4, 2) := by decide +kernel
theorem dX11_tellsOf_73 : decode cX11_tellsOf 73 = .ok (.ireturn, 1) := by decide +kernel
theorem dX11_tells_0 : decode cX11_tells 0 = .ok (.aload_n 0, 1) := by decide +kernel
theorem dX11_tells_1 : decode cX11_tells 1 = .ok (.iload_n 1, 1) := by decide +kernel
theorem dX11_tells_2 : decode cX11_tells 2 = .ok (.invokevirtual 125, 3) := by decide +kernel
theorem dX11_tells_5 : decode cX11_tells 5 = .ok (.ifCond .eq 11, 3) := by decide +kernel
theorem dX11_tells_8 : decode cX11_tells 8 = .ok (.aload_n 0, 1) := by decide +kernel
theorem dX11_tells_9 : decode cX11_tells 9 = .ok (.iload_n 1, 1) := by decide +kernel
theorem dX11_tells_10 : decode cX11_tells 10 = .ok (.invokevirtual 232, 3) := by decide +kernel
theorem dX11_tells_13 : decode cX11_tells 13 = .ok (.goto 4, 3) := by decide +kernel
theorem dX11_tells_16 : decode cX11_tells 16 = .ok (.iconst (-1), 1) := by decide +kernel
theorem dX11_tells_17 : decode cX11_tells 17 = .ok (.ireturn, 1) := by decide +kernel
theorem dX11_best_0 : decode cX11_best 0 = .ok (.aload_n 0, 1) := by decide +kernel
theorem dX11_best_1 : decode cX11_best 1 = .ok (.getfield 119, 3) := by decide +kernel
theorem dX11_best_4 : decode cX11_best 4 = .ok (.ifCond .ne 6, 3) := by decide +kernel
theorem dX11_best_7 : decode cX11_best 7 = .ok (.bipush (-4), 2) := by decide +kernel
theorem dX11_best_9 : decode cX11_best 9 = .ok (.ireturn, 1) := by decide +kernel
theorem dX11_best_10 : decode cX11_best 10 = .ok (.iconst 0, 1) := by decide +kernel
theorem dX11_best_11 : decode cX11_best 11 = .ok (.istore_n 1, 1) := by decide +kernel
theorem dX11_best_12 : decode cX11_best 12 = .ok (.iconst 0, 1) := by decide +kernel
theorem dX11_best_13 : decode cX11_best 13 = .ok (.istore_n 2, 1) := by decide +kernel
theorem dX11_best_14 : decode cX11_best 14 = .ok (.iconst 0, 1) := by decide +kernel
theorem dX11_best_15 : decode cX11_best 15 = .ok (.istore_n 3, 1) := by decide +kernel
theorem dX11_best_16 : decode cX11_best 16 = .ok (.iload_n 3, 1) := by decide +kernel
theorem dX11_best_17 : decode cX11_best 17 = .ok (.aload_n 0, 1) := by decide +kernel
theorem dX11_best_18 : decode cX11_best 18 = .ok (.getfield 119, 3) := by decide +kernel
theorem dX11_best_21 : decode cX11_best 21 = .ok (.if_icmp .ge 41, 3) := by decide +kernel
theorem dX11_best_24 : decode cX11_best 24 = .ok (.aload_n 0, 1) := by decide +kernel
theorem dX11_best_25 : decode cX11_best 25 = .ok (.iload_n 3, 1) := by decide +kernel
theorem dX11_best_26 : decode cX11_best 26 = .ok (.invokevirtual 232, 3) := by decide +kernel
theorem dX11_best_29 : decode cX11_best 29 = .ok (.istore 4, 2) := by decide +kernel
theorem dX11_best_31 : decode cX11_best 31 = .ok (.iload 4, 2) := by decide +kernel
theorem dX11_best_33 : decode cX11_best 33 = .ok (.iload_n 2, 1) := by decide +kernel
theorem dX11_best_34 : decode cX11_best 34 = .ok (.if_icmp .le 7, 3) := by decide +kernel
theorem dX11_best_37 : decode cX11_best 37 = .ok (.iload_n 3, 1) := by decide +kernel
theorem dX11_best_38 : decode cX11_best 38 = .ok (.goto 4, 3) := by decide +kernel
theorem dX11_best_41 : decode cX11_best 41 = .ok (.iload_n 1, 1) := by decide +kernel
theorem dX11_best_42 : decode cX11_best 42 = .ok (.istore_n 1, 1) := by decide +kernel
theorem dX11_best_43 : decode cX11_best 43 = .ok (.iload 4, 2) := by decide +kernel
theorem dX11_best_45 : decode cX11_best 45 = .ok (.iload_n 2, 1) := by decide +kernel
theorem dX11_best_46 : decode cX11_best 46 = .ok (.if_icmp .le 8, 3) := by decide +kernel
theorem dX11_best_49 : decode cX11_best 49 = .ok (.iload 4, 2) := by decide +kernel
theorem dX11_best_51 : decode cX11_best 51 = .ok (.goto 4, 3) := by decide +kernel
theorem dX11_best_54 : decode cX11_best 54 = .ok (.iload_n 2, 1) := by decide +kernel
theorem dX11_best_55 : decode cX11_best 55 = .ok (.istore_n 2, 1) := by decide +kernel
theorem dX11_best_56 : decode cX11_best 56 = .ok (.iinc 3 1, 3) := by decide +kernel
theorem dX11_best_59 : decode cX11_best 59 = .ok (.goto (-43), 3) := by decide +kernel
theorem dX11_best_62 : decode cX11_best 62 = .ok (.aload_n 0, 1) := by decide +kernel
theorem dX11_best_63 : decode cX11_best 63 = .ok (.iload_n 2, 1) := by decide +kernel
theorem dX11_best_64 : decode cX11_best 64 = .ok (.iload_n 1, 1) := by decide +kernel
theorem dX11_best_65 : decode cX11_best 65 = .ok (.invokevirtual 84, 3) := by decide +kernel
theorem dX11_best_68 : decode cX11_best 68 = .ok (.ireturn, 1) := by decide +kernel
theorem dX11_hidden_0 : decode cX11_hidden 0 = .ok (.iconst 0, 1) := by decide +kernel
theorem dX11_hidden_1 : decode cX11_hidden 1 = .ok (.istore_n 3, 1) := by decide +kernel
theorem dX11_hidden_2 : decode cX11_hidden 2 = .ok (.iconst 0, 1) := by decide +kernel
theorem dX11_hidden_3 : decode cX11_hidden 3 = .ok (.istore 4, 2) := by decide +kernel
theorem dX11_hidden_5 : decode cX11_hidden 5 = .ok (.iload 4, 2) := by decide +kernel
theorem dX11_hidden_7 : decode cX11_hidden 7 = .ok (.aload_n 0, 1) := by decide +kernel
theorem dX11_hidden_8 : decode cX11_hidden 8 = .ok (.getfield 119, 3) := by decide +kernel
theorem dX11_hidden_11 : decode cX11_hidden 11 = .ok (.if_icmp .ge 46, 3) := by decide +kernel
theorem dX11_hidden_14 : decode cX11_hidden 14 = .ok (.aload_n 0, 1) := by decide +kernel
theorem dX11_hidden_15 : decode cX11_hidden 15 = .ok (.iload 4, 2) := by decide +kernel
theorem dX11_hidden_17 : decode cX11_hidden 17 = .ok (.invokevirtual 146, 3) := by decide +kernel
theorem dX11_hidden_20 : decode cX11_hidden 20 = .ok (.istore 5, 2) := by decide +kernel
theorem dX11_hidden_22 : decode cX11_hidden 22 = .ok (.aload_n 0, 1) := by decide +kernel
theorem dX11_hidden_23 : decode cX11_hidden 23 = .ok (.getfield 57, 3) := by decide +kernel
theorem dX11_hidden_26 : decode cX11_hidden 26 = .ok (.iload_n 1, 1) := by decide +kernel
theorem dX11_hidden_27 : decode cX11_hidden 27 = .ok (.iload_n 2, 1) := by decide +kernel
theorem dX11_hidden_28 : decode cX11_hidden 28 = .ok (.iastore, 1) := by decide +kernel
theorem dX11_hidden_29 : decode cX11_hidden 29 = .ok (.iload_n 3, 1) := by decide +kernel
theorem dX11_hidden_30 : decode cX11_hidden 30 = .ok (.aload_n 0, 1) := by decide +kernel
theorem dX11_hidden_31 : decode cX11_hidden 31 = .ok (.iload 4, 2) := by decide +kernel
theorem dX11_hidden_33 : decode cX11_hidden 33 = .ok (.invokevirtual 143, 3) := by decide +kernel
theorem dX11_hidden_36 : decode cX11_hidden 36 = .ok (.iload 5, 2) := by decide +kernel
theorem dX11_hidden_38 : decode cX11_hidden 38 = .ok (.if_icmp .ne 10, 3) := by decide +kernel
theorem dX11_hidden_41 : decode cX11_hidden 41 = .ok (.iconst 1, 1) := by decide +kernel
theorem dX11_hidden_42 : decode cX11_hidden 42 = .ok (.iload 4, 2) := by decide +kernel
theorem dX11_hidden_44 : decode cX11_hidden 44 = .ok (.ishl, 1) := by decide +kernel
theorem dX11_hidden_45 : decode cX11_hidden 45 = .ok (.goto 4, 3) := by decide +kernel
theorem dX11_hidden_48 : decode cX11_hidden 48 = .ok (.iconst 0, 1) := by decide +kernel
theorem dX11_hidden_49 : decode cX11_hidden 49 = .ok (.ior, 1) := by decide +kernel
theorem dX11_hidden_50 : decode cX11_hidden 50 = .ok (.istore_n 3, 1) := by decide +kernel
theorem dX11_hidden_51 : decode cX11_hidden 51 = .ok (.iinc 4 1, 3) := by decide +kernel
theorem dX11_hidden_54 : decode cX11_hidden 54 = .ok (.goto (-49), 3) := by decide +kernel
theorem dX11_hidden_57 : decode cX11_hidden 57 = .ok (.iload_n 3, 1) := by decide +kernel
theorem dX11_hidden_58 : decode cX11_hidden 58 = .ok (.ireturn, 1) := by decide +kernel
theorem dX11_hides_0 : decode cX11_hides 0 = .ok (.aload_n 0, 1) := by decide +kernel
theorem dX11_hides_1 : decode cX11_hides 1 = .ok (.iload_n 1, 1) := by decide +kernel
theorem dX11_hides_2 : decode cX11_hides 2 = .ok (.invokevirtual 157, 3) := by decide +kernel
theorem dX11_hides_5 : decode cX11_hides 5 = .ok (.ifCond .eq 21, 3) := by decide +kernel
theorem dX11_hides_8 : decode cX11_hides 8 = .ok (.iload_n 2, 1) := by decide +kernel
theorem dX11_hides_9 : decode cX11_hides 9 = .ok (.i2l, 1) := by decide +kernel
theorem dX11_hides_10 : decode cX11_hides 10 = .ok (.ldc2_w 200, 3) := by decide +kernel
theorem dX11_hides_13 : decode cX11_hides 13 = .ok (.ldc2_w 152, 3) := by decide +kernel
theorem dX11_hides_16 : decode cX11_hides 16 = .ok (.invokestatic 76, 3) := by decide +kernel
theorem dX11_hides_19 : decode cX11_hides 19 = .ok (.ifCond .eq 7, 3) := by decide +kernel
theorem dX11_hides_22 : decode cX11_hides 22 = .ok (.iload_n 2, 1) := by decide +kernel
theorem dX11_hides_23 : decode cX11_hides 23 = .ok (.ifCond .ne 7, 3) := by decide +kernel
theorem dX11_hides_26 : decode cX11_hides 26 = .ok (.iconst (-1), 1) := by decide +kernel
theorem dX11_hides_27 : decode cX11_hides 27 = .ok (.goto 9, 3) := by decide +kernel
theorem dX11_hides_30 : decode cX11_hides 30 = .ok (.aload_n 0, 1) := by decide +kernel
theorem dX11_hides_31 : decode cX11_hides 31 = .ok (.iload_n 1, 1) := by decide +kernel
theorem dX11_hides_32 : decode cX11_hides 32 = .ok (.iload_n 2, 1) := by decide +kernel
theorem dX11_hides_33 : decode cX11_hides 33 = .ok (.invokevirtual 235, 3) := by decide +kernel
theorem dX11_hides_36 : decode cX11_hides 36 = .ok (.ireturn, 1) := by decide +kernel
theorem dX11_isTold_0 : decode cX11_isTold 0 = .ok (.iconst 1, 1) := by decide +kernel
theorem dX11_isTold_1 : decode cX11_isTold 1 = .ok (.istore_n 2, 1) := by decide +kernel
theorem dX11_isTold_2 : decode cX11_isTold 2 = .ok (.iconst 0, 1) := by decide +kernel
theorem dX11_isTold_3 : decode cX11_isTold 3 = .ok (.istore_n 3, 1) := by decide +kernel
theorem dX11_isTold_4 : decode cX11_isTold 4 = .ok (.iload_n 3, 1) := by decide +kernel
theorem dX11_isTold_5 : decode cX11_isTold 5 = .ok (.aload_n 0, 1) := by decide +kernel
theorem dX11_isTold_6 : decode cX11_isTold 6 = .ok (.getfield 116, 3) := by decide +kernel
theorem dX11_isTold_9 : decode cX11_isTold 9 = .ok (.if_icmp .ge 45, 3) := by decide +kernel
theorem dX11_isTold_12 : decode cX11_isTold 12 = .ok (.iload_n 2, 1) := by decide +kernel
theorem dX11_isTold_13 : decode cX11_isTold 13 = .ok (.ifCond .eq 41, 3) := by decide +kernel
theorem dX11_isTold_16 : decode cX11_isTold 16 = .ok (.iload_n 1, 1) := by decide +kernel
theorem dX11_isTold_17 : decode cX11_isTold 17 = .ok (.aload_n 0, 1) := by decide +kernel
theorem dX11_isTold_18 : decode cX11_isTold 18 = .ok (.iload_n 3, 1) := by decide +kernel
theorem dX11_isTold_19 : decode cX11_isTold 19 = .ok (.iconst (-1), 1) := by decide +kernel
theorem dX11_isTold_20 : decode cX11_isTold 20 = .ok (.invokevirtual 235, 3) := by decide +kernel
theorem dX11_isTold_23 : decode cX11_isTold 23 = .ok (.iconst (-1), 1) := by decide +kernel
theorem dX11_isTold_24 : decode cX11_isTold 24 = .ok (.ixor, 1) := by decide +kernel
theorem dX11_isTold_25 : decode cX11_isTold 25 = .ok (.iand, 1) := by decide +kernel
theorem dX11_isTold_26 : decode cX11_isTold 26 = .ok (.ifCond .eq 20, 3) := by decide +kernel
theorem dX11_isTold_29 : decode cX11_isTold 29 = .ok (.iload_n 1, 1) := by decide +kernel
theorem dX11_isTold_30 : decode cX11_isTold 30 = .ok (.aload_n 0, 1) := by decide +kernel
theorem dX11_isTold_31 : decode cX11_isTold 31 = .ok (.iload_n 3, 1) := by decide +kernel
theorem dX11_isTold_32 : decode cX11_isTold 32 = .ok (.iconst 1, 1) := by decide +kernel
theorem dX11_isTold_33 : decode cX11_isTold 33 = .ok (.invokevirtual 235, 3) := by decide +kernel
theorem dX11_isTold_36 : decode cX11_isTold 36 = .ok (.iconst (-1), 1) := by decide +kernel
theorem dX11_isTold_37 : decode cX11_isTold 37 = .ok (.ixor, 1) := by decide +kernel
theorem dX11_isTold_38 : decode cX11_isTold 38 = .ok (.iand, 1) := by decide +kernel
theorem dX11_isTold_39 : decode cX11_isTold 39 = .ok (.ifCond .eq 7, 3) := by decide +kernel
theorem dX11_isTold_42 : decode cX11_isTold 42 = .ok (.iconst 1, 1) := by decide +kernel
theorem dX11_isTold_43 : decode cX11_isTold 43 = .ok (.goto 4, 3) := by decide +kernel
theorem dX11_isTold_46 : decode cX11_isTold 46 = .ok (.iconst 0, 1) := by decide +kernel
theorem dX11_isTold_47 : decode cX11_isTold 47 = .ok (.istore_n 2, 1) := by decide +kernel
theorem dX11_isTold_48 : decode cX11_isTold 48 = .ok (.iinc 3 1, 3) := by decide +kernel
theorem dX11_isTold_51 : decode cX11_isTold 51 = .ok (.goto (-47), 3) := by decide +kernel
theorem dX11_isTold_54 : decode cX11_isTold 54 = .ok (.iload_n 2, 1) := by decide +kernel
theorem dX11_isTold_55 : decode cX11_isTold 55 = .ok (.ireturn, 1) := by decide +kernel
theorem dX11_fewest_0 : decode cX11_fewest 0 = .ok (.aload_n 0, 1) := by decide +kernel
theorem dX11_fewest_1 : decode cX11_fewest 1 = .ok (.getfield 119, 3) := by decide +kernel
theorem dX11_fewest_4 : decode cX11_fewest 4 = .ok (.ifCond .ne 6, 3) := by decide +kernel
theorem dX11_fewest_7 : decode cX11_fewest 7 = .ok (.bipush (-4), 2) := by decide +kernel
theorem dX11_fewest_9 : decode cX11_fewest 9 = .ok (.ireturn, 1) := by decide +kernel
theorem dX11_fewest_10 : decode cX11_fewest 10 = .ok (.iconst 1, 1) := by decide +kernel
theorem dX11_fewest_11 : decode cX11_fewest 11 = .ok (.istore_n 1, 1) := by decide +kernel
theorem dX11_fewest_12 : decode cX11_fewest 12 = .ok (.iload_n 1, 1) := by decide +kernel
theorem dX11_fewest_13 : decode cX11_fewest 13 = .ok (.iconst 4, 1) := by decide +kernel
theorem dX11_fewest_14 : decode cX11_fewest 14 = .ok (.if_icmp .ge 50, 3) := by decide +kernel
theorem dX11_fewest_17 : decode cX11_fewest 17 = .ok (.iconst 0, 1) := by decide +kernel
theorem dX11_fewest_18 : decode cX11_fewest 18 = .ok (.istore_n 2, 1) := by decide +kernel
theorem dX11_fewest_19 : decode cX11_fewest 19 = .ok (.iload_n 2, 1) := by decide +kernel
theorem dX11_fewest_20 : decode cX11_fewest 20 = .ok (.iconst 1, 1) := by decide +kernel
theorem dX11_fewest_21 : decode cX11_fewest 21 = .ok (.aload_n 0, 1) := by decide +kernel
theorem dX11_fewest_22 : decode cX11_fewest 22 = .ok (.getfield 119, 3) := by decide +kernel
theorem dX11_fewest_25 : decode cX11_fewest 25 = .ok (.ishl, 1) := by decide +kernel
theorem dX11_fewest_26 : decode cX11_fewest 26 = .ok (.if_icmp .ge 32, 3) := by decide +kernel
theorem dX11_fewest_29 : decode cX11_fewest 29 = .ok (.iload_n 2, 1) := by decide +kernel
theorem dX11_fewest_30 : decode cX11_fewest 30 = .ok (.invokestatic 173, 3) := by decide +kernel
theorem dX11_fewest_33 : decode cX11_fewest 33 = .ok (.iload_n 1, 1) := by decide +kernel
theorem dX11_fewest_34 : decode cX11_fewest 34 = .ok (.if_icmp .ne 18, 3) := by decide +kernel
theorem dX11_fewest_37 : decode cX11_fewest 37 = .ok (.aload_n 0, 1) := by decide +kernel
theorem dX11_fewest_38 : decode cX11_fewest 38 = .ok (.iload_n 2, 1) := by decide +kernel
theorem dX11_fewest_39 : decode cX11_fewest 39 = .ok (.invokevirtual 238, 3) := by decide +kernel
theorem dX11_fewest_42 : decode cX11_fewest 42 = .ok (.ifCond .eq 10, 3) := by decide +kernel
theorem dX11_fewest_45 : decode cX11_fewest 45 = .ok (.aload_n 0, 1) := by decide +kernel
theorem dX11_fewest_46 : decode cX11_fewest 46 = .ok (.iload_n 2, 1) := by decide +kernel
theorem dX11_fewest_47 : decode cX11_fewest 47 = .ok (.iload_n 1, 1) := by decide +kernel
theorem dX11_fewest_48 : decode cX11_fewest 48 = .ok (.invokevirtual 84, 3) := by decide +kernel
theorem dX11_fewest_51 : decode cX11_fewest 51 = .ok (.ireturn, 1) := by decide +kernel
theorem dX11_fewest_52 : decode cX11_fewest 52 = .ok (.iinc 2 1, 3) := by decide +kernel
theorem dX11_fewest_55 : decode cX11_fewest 55 = .ok (.goto (-36), 3) := by decide +kernel
theorem dX11_fewest_58 : decode cX11_fewest 58 = .ok (.iinc 1 1, 3) := by decide +kernel
theorem dX11_fewest_61 : decode cX11_fewest 61 = .ok (.goto (-49), 3) := by decide +kernel
theorem dX11_fewest_64 : decode cX11_fewest 64 = .ok (.bipush (-9), 2) := by decide +kernel
theorem dX11_fewest_66 : decode cX11_fewest 66 = .ok (.ireturn, 1) := by decide +kernel
theorem dX11_modern_0 : decode cX11_modern 0 = .ok (.iconst 0, 1) := by decide +kernel
theorem dX11_modern_1 : decode cX11_modern 1 = .ok (.istore_n 1, 1) := by decide +kernel
theorem dX11_modern_2 : decode cX11_modern 2 = .ok (.iconst 0, 1) := by decide +kernel
theorem dX11_modern_3 : decode cX11_modern 3 = .ok (.istore_n 2, 1) := by decide +kernel
theorem dX11_modern_4 : decode cX11_modern 4 = .ok (.iconst 0, 1) := by decide +kernel
theorem dX11_modern_5 : decode cX11_modern 5 = .ok (.istore_n 3, 1) := by decide +kernel
theorem dX11_modern_6 : decode cX11_modern 6 = .ok (.iload_n 3, 1) := by decide +kernel
theorem dX11_modern_7 : decode cX11_modern 7 = .ok (.aload_n 0, 1) := by decide +kernel
theorem dX11_modern_8 : decode cX11_modern 8 = .ok (.getfield 119, 3) := by decide +kernel
theorem dX11_modern_11 : decode cX11_modern 11 = .ok (.if_icmp .ge 46, 3) := by decide +kernel
theorem dX11_modern_14 : decode cX11_modern 14 = .ok (.aload_n 0, 1) := by decide +kernel
theorem dX11_modern_15 : decode cX11_modern 15 = .ok (.iload_n 3, 1) := by decide +kernel
theorem dX11_modern_16 : decode cX11_modern 16 = .ok (.invokevirtual 146, 3) := by decide +kernel
theorem dX11_modern_19 : decode cX11_modern 19 = .ok (.ifCond .eq 32, 3) := by decide +kernel
theorem dX11_modern_22 : decode cX11_modern 22 = .ok (.iload_n 1, 1) := by decide +kernel
theorem dX11_modern_23 : decode cX11_modern 23 = .ok (.iconst 1, 1) := by decide +kernel
theorem dX11_modern_24 : decode cX11_modern 24 = .ok (.iload_n 3, 1) := by decide +kernel
theorem dX11_modern_25 : decode cX11_modern 25 = .ok (.ishl, 1) := by decide +kernel
theorem dX11_modern_26 : decode cX11_modern 26 = .ok (.ior, 1) := by decide +kernel
theorem dX11_modern_27 : decode cX11_modern 27 = .ok (.istore_n 1, 1) := by decide +kernel
theorem dX11_modern_28 : decode cX11_modern 28 = .ok (.aload_n 0, 1) := by decide +kernel
theorem dX11_modern_29 : decode cX11_modern 29 = .ok (.getfield 57, 3) := by decide +kernel
theorem dX11_modern_32 : decode cX11_modern 32 = .ok (.iconst 0, 1) := by decide +kernel
theorem dX11_modern_33 : decode cX11_modern 33 = .ok (.iconst (-1), 1) := by decide +kernel
theorem dX11_modern_34 : decode cX11_modern 34 = .ok (.iastore, 1) := by decide +kernel
theorem dX11_modern_35 : decode cX11_modern 35 = .ok (.iload_n 2, 1) := by decide +kernel
theorem dX11_modern_36 : decode cX11_modern 36 = .ok (.aload_n 0, 1) := by decide +kernel
theorem dX11_modern_37 : decode cX11_modern 37 = .ok (.iload_n 3, 1) := by decide +kernel
theorem dX11_modern_38 : decode cX11_modern 38 = .ok (.invokevirtual 143, 3) := by decide +kernel
theorem dX11_modern_41 : decode cX11_modern 41 = .ok (.ifCond .ne 7, 3) := by decide +kernel
theorem dX11_modern_44 : decode cX11_modern 44 = .ok (.iconst 1, 1) := by decide +kernel
theorem dX11_modern_45 : decode cX11_modern 45 = .ok (.goto 4, 3) := by decide +kernel
theorem dX11_modern_48 : decode cX11_modern 48 = .ok (.iconst 0, 1) := by decide +kernel
theorem dX11_modern_49 : decode cX11_modern 49 = .ok (.iadd, 1) := by decide +kernel
theorem dX11_modern_50 : decode cX11_modern 50 = .ok (.istore_n 2, 1) := by decide +kernel
theorem dX11_modern_51 : decode cX11_modern 51 = .ok (.iinc 3 1, 3) := by decide +kernel
theorem dX11_modern_54 : decode cX11_modern 54 = .ok (.goto (-48), 3) := by decide +kernel
theorem dX11_modern_57 : decode cX11_modern 57 = .ok (.aload_n 0, 1) := by decide +kernel
theorem dX11_modern_58 : decode cX11_modern 58 = .ok (.iload_n 2, 1) := by decide +kernel
theorem dX11_modern_59 : decode cX11_modern 59 = .ok (.iload_n 1, 1) := by decide +kernel
theorem dX11_modern_60 : decode cX11_modern 60 = .ok (.invokevirtual 84, 3) := by decide +kernel
theorem dX11_modern_63 : decode cX11_modern 63 = .ok (.ireturn, 1) := by decide +kernel
theorem dX11_areOne_0 : decode cX11_areOne 0 = .ok (.iconst 1, 1) := by decide +kernel
theorem dX11_areOne_1 : decode cX11_areOne 1 = .ok (.istore_n 1, 1) := by decide +kernel
theorem dX11_areOne_2 : decode cX11_areOne 2 = .ok (.iconst 1, 1) := by decide +kernel
theorem dX11_areOne_3 : decode cX11_areOne 3 = .ok (.istore_n 2, 1) := by decide +kernel
theorem dX11_areOne_4 : decode cX11_areOne 4 = .ok (.iload_n 2, 1) := by decide +kernel
theorem dX11_areOne_5 : decode cX11_areOne 5 = .ok (.aload_n 0, 1) := by decide +kernel
theorem dX11_areOne_6 : decode cX11_areOne 6 = .ok (.getfield 116, 3) := by decide +kernel
theorem dX11_areOne_9 : decode cX11_areOne 9 = .ok (.if_icmp .ge 34, 3) := by decide +kernel
theorem dX11_areOne_12 : decode cX11_areOne 12 = .ok (.iload_n 1, 1) := by decide +kernel
theorem dX11_areOne_13 : decode cX11_areOne 13 = .ok (.ifCond .eq 22, 3) := by decide +kernel
theorem dX11_areOne_16 : decode cX11_areOne 16 = .ok (.aload_n 0, 1) := by decide +kernel
theorem dX11_areOne_17 : decode cX11_areOne 17 = .ok (.getfield 57, 3) := by decide +kernel
theorem dX11_areOne_20 : decode cX11_areOne 20 = .ok (.iload_n 2, 1) := by decide +kernel
theorem dX11_areOne_21 : decode cX11_areOne 21 = .ok (.iaload, 1) := by decide +kernel
theorem dX11_areOne_22 : decode cX11_areOne 22 = .ok (.aload_n 0, 1) := by decide +kernel
theorem dX11_areOne_23 : decode cX11_areOne 23 = .ok (.getfield 57, 3) := by decide +kernel
theorem dX11_areOne_26 : decode cX11_areOne 26 = .ok (.iconst 0, 1) := by decide +kernel
theorem dX11_areOne_27 : decode cX11_areOne 27 = .ok (.iaload, 1) := by decide +kernel
theorem dX11_areOne_28 : decode cX11_areOne 28 = .ok (.if_icmp .ne 7, 3) := by decide +kernel
theorem dX11_areOne_31 : decode cX11_areOne 31 = .ok (.iconst 1, 1) := by decide +kernel
theorem dX11_areOne_32 : decode cX11_areOne 32 = .ok (.goto 4, 3) := by decide +kernel
theorem dX11_areOne_35 : decode cX11_areOne 35 = .ok (.iconst 0, 1) := by decide +kernel
theorem dX11_areOne_36 : decode cX11_areOne 36 = .ok (.istore_n 1, 1) := by decide +kernel
theorem dX11_areOne_37 : decode cX11_areOne 37 = .ok (.iinc 2 1, 3) := by decide +kernel
theorem dX11_areOne_40 : decode cX11_areOne 40 = .ok (.goto (-36), 3) := by decide +kernel
theorem dX11_areOne_43 : decode cX11_areOne 43 = .ok (.iload_n 1, 1) := by decide +kernel
theorem dX11_areOne_44 : decode cX11_areOne 44 = .ok (.ireturn, 1) := by decide +kernel
theorem dX11_most_0 : decode cX11_most 0 = .ok (.iconst 0, 1) := by decide +kernel
theorem dX11_most_1 : decode cX11_most 1 = .ok (.istore_n 1, 1) := by decide +kernel
theorem dX11_most_2 : decode cX11_most 2 = .ok (.iconst 0, 1) := by decide +kernel
theorem dX11_most_3 : decode cX11_most 3 = .ok (.istore_n 2, 1) := by decide +kernel
theorem dX11_most_4 : decode cX11_most 4 = .ok (.bipush (-2), 2) := by decide +kernel
theorem dX11_most_6 : decode cX11_most 6 = .ok (.istore_n 3, 1) := by decide +kernel
theorem dX11_most_7 : decode cX11_most 7 = .ok (.iload_n 3, 1) := by decide +kernel
theorem dX11_most_8 : decode cX11_most 8 = .ok (.iconst 3, 1) := by decide +kernel
theorem dX11_most_9 : decode cX11_most 9 = .ok (.if_icmp .ge 76, 3) := by decide +kernel
theorem dX11_most_12 : decode cX11_most 12 = .ok (.iconst 0, 1) := by decide +kernel
theorem dX11_most_13 : decode cX11_most 13 = .ok (.istore 4, 2) := by decide +kernel
theorem dX11_most_15 : decode cX11_most 15 = .ok (.iconst 0, 1) := by decide +kernel
theorem dX11_most_16 : decode cX11_most 16 = .ok (.istore 5, 2) := by decide +kernel
theorem dX11_most_18 : decode cX11_most 18 = .ok (.iload 5, 2) := by decide +kernel
theorem dX11_most_20 : decode cX11_most 20 = .ok (.aload_n 0, 1) := by decide +kernel
theorem dX11_most_21 : decode cX11_most 21 = .ok (.getfield 116, 3) := by decide +kernel
theorem dX11_most_24 : decode cX11_most 24 = .ok (.if_icmp .ge 30, 3) := by decide +kernel
theorem dX11_most_27 : decode cX11_most 27 = .ok (.iload 4, 2) := by decide +kernel
theorem dX11_most_29 : decode cX11_most 29 = .ok (.aload_n 0, 1) := by decide +kernel
theorem dX11_most_30 : decode cX11_most 30 = .ok (.getfield 57, 3) := by decide +kernel
theorem dX11_most_33 : decode cX11_most 33 = .ok (.iload 5, 2) := by decide +kernel
theorem dX11_most_35 : decode cX11_most 35 = .ok (.iaload, 1) := by decide +kernel
theorem dX11_most_36 : decode cX11_most 36 = .ok (.iload_n 3, 1) := by decide +kernel
theorem dX11_most_37 : decode cX11_most 37 = .ok (.if_icmp .ne 7, 3) := by decide +kernel
theorem dX11_most_40 : decode cX11_most 40 = .ok (.iconst 1, 1) := by decide +kernel
theorem dX11_most_41 : decode cX11_most 41 = .ok (.goto 4, 3) := by decide +kernel
theorem dX11_most_44 : decode cX11_most 44 = .ok (.iconst 0, 1) := by decide +kernel
theorem dX11_most_45 : decode cX11_most 45 = .ok (.iadd, 1) := by decide +kernel
theorem dX11_most_46 : decode cX11_most 46 = .ok (.istore 4, 2) := by decide +kernel
theorem dX11_most_48 : decode cX11_most 48 = .ok (.iinc 5 1, 3) := by decide +kernel
theorem dX11_most_51 : decode cX11_most 51 = .ok (.goto (-33), 3) := by decide +kernel
theorem dX11_most_54 : decode cX11_most 54 = .ok (.iload 4, 2) := by decide +kernel
theorem dX11_most_56 : decode cX11_most 56 = .ok (.iload_n 2, 1) := by decide +kernel
theorem dX11_most_57 : decode cX11_most 57 = .ok (.if_icmp .le 7, 3) := by decide +kernel
theorem dX11_most_60 : decode cX11_most 60 = .ok (.iload_n 3, 1) := by decide +kernel
theorem dX11_most_61 : decode cX11_most 61 = .ok (.goto 4, 3) := by decide +kernel
theorem dX11_most_64 : decode cX11_most 64 = .ok (.iload_n 1, 1) := by decide +kernel
theorem dX11_most_65 : decode cX11_most 65 = .ok (.istore_n 1, 1) := by decide +kernel
theorem dX11_most_66 : decode cX11_most 66 = .ok (.iload 4, 2) := by decide +kernel
theorem dX11_most_68 : decode cX11_most 68 = .ok (.iload_n 2, 1) := by decide +kernel
theorem dX11_most_69 : decode cX11_most 69 = .ok (.if_icmp .le 8, 3) := by decide +kernel
theorem dX11_most_72 : decode cX11_most 72 = .ok (.iload 4, 2) := by decide +kernel
theorem dX11_most_74 : decode cX11_most 74 = .ok (.goto 4, 3) := by decide +kernel
theorem dX11_most_77 : decode cX11_most 77 = .ok (.iload_n 2, 1) := by decide +kernel
theorem dX11_most_78 : decode cX11_most 78 = .ok (.istore_n 2, 1) := by decide +kernel
theorem dX11_most_79 : decode cX11_most 79 = .ok (.iinc 3 1, 3) := by decide +kernel
theorem dX11_most_82 : decode cX11_most 82 = .ok (.goto (-75), 3) := by decide +kernel
theorem dX11_most_85 : decode cX11_most 85 = .ok (.iload_n 1, 1) := by decide +kernel
theorem dX11_most_86 : decode cX11_most 86 = .ok (.ireturn, 1) := by decide +kernel
theorem dX11_towards_0 : decode cX11_towards 0 = .ok (.iload_n 0, 1) := by decide +kernel
theorem dX11_towards_1 : decode cX11_towards 1 = .ok (.iload_n 1, 1) := by decide +kernel
theorem dX11_towards_2 : decode cX11_towards 2 = .ok (.if_icmp .ge 9, 3) := by decide +kernel
theorem dX11_towards_5 : decode cX11_towards 5 = .ok (.iload_n 0, 1) := by decide +kernel
theorem dX11_towards_6 : decode cX11_towards 6 = .ok (.iconst 1, 1) := by decide +kernel
theorem dX11_towards_7 : decode cX11_towards 7 = .ok (.iadd, 1) := by decide +kernel
theorem dX11_towards_8 : decode cX11_towards 8 = .ok (.goto 15, 3) := by decide +kernel
theorem dX11_towards_11 : decode cX11_towards 11 = .ok (.iload_n 0, 1) := by decide +kernel
theorem dX11_towards_12 : decode cX11_towards 12 = .ok (.iload_n 1, 1) := by decide +kernel
theorem dX11_towards_13 : decode cX11_towards 13 = .ok (.if_icmp .le 9, 3) := by decide +kernel
theorem dX11_towards_16 : decode cX11_towards 16 = .ok (.iload_n 0, 1) := by decide +kernel
theorem dX11_towards_17 : decode cX11_towards 17 = .ok (.iconst 1, 1) := by decide +kernel
theorem dX11_towards_18 : decode cX11_towards 18 = .ok (.isub, 1) := by decide +kernel
theorem dX11_towards_19 : decode cX11_towards 19 = .ok (.goto 4, 3) := by decide +kernel
theorem dX11_towards_22 : decode cX11_towards 22 = .ok (.iload_n 0, 1) := by decide +kernel
theorem dX11_towards_23 : decode cX11_towards 23 = .ok (.ireturn, 1) := by decide +kernel
theorem dX11_bar_0 : decode cX11_bar 0 = .ok (.iconst 2, 1) := by decide +kernel
theorem dX11_bar_1 : decode cX11_bar 1 = .ok (.istore_n 2, 1) := by decide +kernel
theorem dX11_bar_2 : decode cX11_bar 2 = .ok (.bipush (-2), 2) := by decide +kernel
theorem dX11_bar_4 : decode cX11_bar 4 = .ok (.istore_n 3, 1) := by decide +kernel
theorem dX11_bar_5 : decode cX11_bar 5 = .ok (.iconst 0, 1) := by decide +kernel
theorem dX11_bar_6 : decode cX11_bar 6 = .ok (.istore 4, 2) := by decide +kernel
theorem dX11_bar_8 : decode cX11_bar 8 = .ok (.iload 4, 2) := by decide +kernel
theorem dX11_bar_10 : decode cX11_bar 10 = .ok (.aload_n 0, 1) := by decide +kernel
theorem dX11_bar_11 : decode cX11_bar 11 = .ok (.getfield 116, 3) := by decide +kernel
theorem dX11_bar_14 : decode cX11_bar 14 = .ok (.if_icmp .ge 69, 3) := by decide +kernel
theorem dX11_bar_17 : decode cX11_bar 17 = .ok (.aload_n 0, 1) := by decide +kernel
theorem dX11_bar_18 : decode cX11_bar 18 = .ok (.getfield 60, 3) := by decide +kernel
theorem dX11_bar_21 : decode cX11_bar 21 = .ok (.iload 4, 2) := by decide +kernel
theorem dX11_bar_23 : decode cX11_bar 23 = .ok (.aload_n 0, 1) := by decide +kernel
theorem dX11_bar_24 : decode cX11_bar 24 = .ok (.getfield 57, 3) := by decide +kernel
theorem dX11_bar_27 : decode cX11_bar 27 = .ok (.iload 4, 2) := by decide +kernel
theorem dX11_bar_29 : decode cX11_bar 29 = .ok (.iaload, 1) := by decide +kernel
theorem dX11_bar_30 : decode cX11_bar 30 = .ok (.iastore, 1) := by decide +kernel
theorem dX11_bar_31 : decode cX11_bar 31 = .ok (.aload_n 0, 1) := by decide +kernel
theorem dX11_bar_32 : decode cX11_bar 32 = .ok (.getfield 57, 3) := by decide +kernel
theorem dX11_bar_35 : decode cX11_bar 35 = .ok (.iload 4, 2) := by decide +kernel
theorem dX11_bar_37 : decode cX11_bar 37 = .ok (.iaload, 1) := by decide +kernel
theorem dX11_bar_38 : decode cX11_bar 38 = .ok (.iload_n 2, 1) := by decide +kernel
theorem dX11_bar_39 : decode cX11_bar 39 = .ok (.if_icmp .ge 13, 3) := by decide +kernel
theorem dX11_bar_42 : decode cX11_bar 42 = .ok (.aload_n 0, 1) := by decide +kernel
theorem dX11_bar_43 : decode cX11_bar 43 = .ok (.getfield 57, 3) := by decide +kernel
theorem dX11_bar_46 : decode cX11_bar 46 = .ok (.iload 4, 2) := by decide +kernel
theorem dX11_bar_48 : decode cX11_bar 48 = .ok (.iaload, 1) := by decide +kernel
theorem dX11_bar_49 : decode cX11_bar 49 = .ok (.goto 4, 3) := by decide +kernel
theorem dX11_bar_52 : decode cX11_bar 52 = .ok (.iload_n 2, 1) := by decide +kernel
theorem dX11_bar_53 : decode cX11_bar 53 = .ok (.istore_n 2, 1) := by decide +kernel
theorem dX11_bar_54 : decode cX11_bar 54 = .ok (.aload_n 0, 1) := by decide +kernel
theorem dX11_bar_55 : decode cX11_bar 55 = .ok (.getfield 57, 3) := by decide +kernel
theorem dX11_bar_58 : decode cX11_bar 58 = .ok (.iload 4, 2) := by decide +kernel
theorem dX11_bar_60 : decode cX11_bar 60 = .ok (.iaload, 1) := by decide +kernel
theorem dX11_bar_61 : decode cX11_bar 61 = .ok (.iload_n 3, 1) := by decide +kernel
theorem dX11_bar_62 : decode cX11_bar 62 = .ok (.if_icmp .le 13, 3) := by decide +kernel
theorem dX11_bar_65 : decode cX11_bar 65 = .ok (.aload_n 0, 1) := by decide +kernel
theorem dX11_bar_66 : decode cX11_bar 66 = .ok (.getfield 57, 3) := by decide +kernel
theorem dX11_bar_69 : decode cX11_bar 69 = .ok (.iload 4, 2) := by decide +kernel
theorem dX11_bar_71 : decode cX11_bar 71 = .ok (.iaload, 1) := by decide +kernel
theorem dX11_bar_72 : decode cX11_bar 72 = .ok (.goto 4, 3) := by decide +kernel
theorem dX11_bar_75 : decode cX11_bar 75 = .ok (.iload_n 3, 1) := by decide +kernel
theorem dX11_bar_76 : decode cX11_bar 76 = .ok (.istore_n 3, 1) := by decide +kernel
theorem dX11_bar_77 : decode cX11_bar 77 = .ok (.iinc 4 1, 3) := by decide +kernel
theorem dX11_bar_80 : decode cX11_bar 80 = .ok (.goto (-72), 3) := by decide +kernel
theorem dX11_bar_83 : decode cX11_bar 83 = .ok (.aload_n 0, 1) := by decide +kernel
theorem dX11_bar_84 : decode cX11_bar 84 = .ok (.invokevirtual 241, 3) := by decide +kernel
theorem dX11_bar_87 : decode cX11_bar 87 = .ok (.istore 4, 2) := by decide +kernel
theorem dX11_bar_89 : decode cX11_bar 89 = .ok (.iconst 0, 1) := by decide +kernel
theorem dX11_bar_90 : decode cX11_bar 90 = .ok (.istore 5, 2) := by decide +kernel
theorem dX11_bar_92 : decode cX11_bar 92 = .ok (.iload 5, 2) := by decide +kernel
theorem dX11_bar_94 : decode cX11_bar 94 = .ok (.aload_n 0, 1) := by decide +kernel
theorem dX11_bar_95 : decode cX11_bar 95 = .ok (.getfield 116, 3) := by decide +kernel
theorem dX11_bar_98 : decode cX11_bar 98 = .ok (.if_icmp .ge 158, 3) := by decide +kernel
theorem dX11_bar_101 : decode cX11_bar 101 = .ok (.aload_n 0, 1) := by decide +kernel
theorem dX11_bar_102 : decode cX11_bar 102 = .ok (.getfield 60, 3) := by decide +kernel
theorem dX11_bar_105 : decode cX11_bar 105 = .ok (.iload 5, 2) := by decide +kernel
theorem dX11_bar_107 : decode cX11_bar 107 = .ok (.iaload, 1) := by decide +kernel
theorem dX11_bar_108 : decode cX11_bar 108 = .ok (.istore 6, 2) := by decide +kernel
theorem dX11_bar_110 : decode cX11_bar 110 = .ok (.iload_n 1, 1) := by decide +kernel
theorem dX11_bar_111 : decode cX11_bar 111 = .ok (.tableswitch 90 0 4 #[33, 36, 47, 54, 78], 33) := by decide +kernel
theorem dX11_bar_144 : decode cX11_bar 144 = .ok (.goto 97, 3) := by decide +kernel
theorem dX11_bar_147 : decode cX11_bar 147 = .ok (.aload_n 0, 1) := by decide +kernel
theorem dX11_bar_148 : decode cX11_bar 148 = .ok (.getfield 60, 3) := by decide +kernel
theorem dX11_bar_151 : decode cX11_bar 151 = .ok (.iconst 0, 1) := by decide +kernel
theorem dX11_bar_152 : decode cX11_bar 152 = .ok (.iaload, 1) := by decide +kernel
theorem dX11_bar_153 : decode cX11_bar 153 = .ok (.istore 6, 2) := by decide +kernel
theorem dX11_bar_155 : decode cX11_bar 155 = .ok (.goto 86, 3) := by decide +kernel
theorem dX11_bar_158 : decode cX11_bar 158 = .ok (.iload 4, 2) := by decide +kernel
theorem dX11_bar_160 : decode cX11_bar 160 = .ok (.istore 6, 2) := by decide +kernel
theorem dX11_bar_162 : decode cX11_bar 162 = .ok (.goto 79, 3) := by decide +kernel
theorem dX11_bar_165 : decode cX11_bar 165 = .ok (.iload 6, 2) := by decide +kernel
theorem dX11_bar_167 : decode cX11_bar 167 = .ok (.aload_n 0, 1) := by decide +kernel
theorem dX11_bar_168 : decode cX11_bar 168 = .ok (.getfield 60, 3) := by decide +kernel
theorem dX11_bar_171 : decode cX11_bar 171 = .ok (.iload 5, 2) := by decide +kernel
theorem dX11_bar_173 : decode cX11_bar 173 = .ok (.iconst 1, 1) := by decide +kernel
theorem dX11_bar_174 : decode cX11_bar 174 = .ok (.iadd, 1) := by decide +kernel
theorem dX11_bar_175 : decode cX11_bar 175 = .ok (.aload_n 0, 1) := by decide +kernel
theorem dX11_bar_176 : decode cX11_bar 176 = .ok (.getfield 116, 3) := by decide +kernel
theorem dX11_bar_179 : decode cX11_bar 179 = .ok (.irem, 1) := by decide +kernel
theorem dX11_bar_180 : decode cX11_bar 180 = .ok (.iaload, 1) := by decide +kernel
theorem dX11_bar_181 : decode cX11_bar 181 = .ok (.invokestatic 244, 3) := by decide +kernel
theorem dX11_bar_184 : decode cX11_bar 184 = .ok (.istore 6, 2) := by decide +kernel
theorem dX11_bar_186 : decode cX11_bar 186 = .ok (.goto 55, 3) := by decide +kernel
theorem dX11_bar_189 : decode cX11_bar 189 = .ok (.iload 6, 2) := by decide +kernel
theorem dX11_bar_191 : decode cX11_bar 191 = .ok (.iload 4, 2) := by decide +kernel
theorem dX11_bar_193 : decode cX11_bar 193 = .ok (.invokestatic 244, 3) := by decide +kernel
theorem dX11_bar_196 : decode cX11_bar 196 = .ok (.istore 6, 2) := by decide +kernel
theorem dX11_bar_198 : decode cX11_bar 198 = .ok (.goto 43, 3) := by decide +kernel
theorem dX11_bar_201 : decode cX11_bar 201 = .ok (.iload_n 2, 1) := by decide +kernel
theorem dX11_bar_202 : decode cX11_bar 202 = .ok (.iload_n 3, 1) := by decide +kernel
theorem dX11_bar_203 : decode cX11_bar 203 = .ok (.if_icmp .ne 8, 3) := by decide +kernel
theorem dX11_bar_206 : decode cX11_bar 206 = .ok (.iload 6, 2) := by decide +kernel
theorem dX11_bar_208 : decode cX11_bar 208 = .ok (.goto 31, 3) := by decide +kernel
theorem dX11_bar_211 : decode cX11_bar 211 = .ok (.iload 6, 2) := by decide +kernel
theorem dX11_bar_213 : decode cX11_bar 213 = .ok (.iload_n 2, 1) := by decide +kernel
theorem dX11_bar_214 : decode cX11_bar 214 = .ok (.if_icmp .ne 10, 3) := by decide +kernel
theorem dX11_bar_217 : decode cX11_bar 217 = .ok (.iload 6, 2) := by decide +kernel
theorem dX11_bar_219 : decode cX11_bar 219 = .ok (.iconst 1, 1) := by decide +kernel
theorem dX11_bar_220 : decode cX11_bar 220 = .ok (.iadd, 1) := by decide +kernel
theorem dX11_bar_221 : decode cX11_bar 221 = .ok (.goto 18, 3) := by decide +kernel
theorem dX11_bar_224 : decode cX11_bar 224 = .ok (.iload 6, 2) := by decide +kernel
theorem dX11_bar_226 : decode cX11_bar 226 = .ok (.iload_n 3, 1) := by decide +kernel
theorem dX11_bar_227 : decode cX11_bar 227 = .ok (.if_icmp .ne 10, 3) := by decide +kernel
theorem dX11_bar_230 : decode cX11_bar 230 = .ok (.iload 6, 2) := by decide +kernel
theorem dX11_bar_232 : decode cX11_bar 232 = .ok (.iconst 1, 1) := by decide +kernel
theorem dX11_bar_233 : decode cX11_bar 233 = .ok (.isub, 1) := by decide +kernel
theorem dX11_bar_234 : decode cX11_bar 234 = .ok (.goto 5, 3) := by decide +kernel
theorem dX11_bar_237 : decode cX11_bar 237 = .ok (.iload 6, 2) := by decide +kernel
theorem dX11_bar_239 : decode cX11_bar 239 = .ok (.istore 6, 2) := by decide +kernel
theorem dX11_bar_241 : decode cX11_bar 241 = .ok (.aload_n 0, 1) := by decide +kernel
theorem dX11_bar_242 : decode cX11_bar 242 = .ok (.getfield 57, 3) := by decide +kernel
theorem dX11_bar_245 : decode cX11_bar 245 = .ok (.iload 5, 2) := by decide +kernel
theorem dX11_bar_247 : decode cX11_bar 247 = .ok (.iload 6, 2) := by decide +kernel
theorem dX11_bar_249 : decode cX11_bar 249 = .ok (.iastore, 1) := by decide +kernel
theorem dX11_bar_250 : decode cX11_bar 250 = .ok (.iinc 5 1, 3) := by decide +kernel
theorem dX11_bar_253 : decode cX11_bar 253 = .ok (.goto (-161), 3) := by decide +kernel
theorem dX11_bar_256 : decode cX11_bar 256 = .ok (.return_, 1) := by decide +kernel
theorem dX11_bars_0 : decode cX11_bars 0 = .ok (.iconst 0, 1) := by decide +kernel
theorem dX11_bars_1 : decode cX11_bars 1 = .ok (.istore_n 2, 1) := by decide +kernel
theorem dX11_bars_2 : decode cX11_bars 2 = .ok (.iload_n 2, 1) := by decide +kernel
theorem dX11_bars_3 : decode cX11_bars 3 = .ok (.bipush 21, 2) := by decide +kernel
theorem dX11_bars_5 : decode cX11_bars 5 = .ok (.if_icmp .ge 23, 3) := by decide +kernel
theorem dX11_bars_8 : decode cX11_bars 8 = .ok (.aload_n 0, 1) := by decide +kernel
theorem dX11_bars_9 : decode cX11_bars 9 = .ok (.invokevirtual 247, 3) := by decide +kernel
theorem dX11_bars_12 : decode cX11_bars 12 = .ok (.ifCond .eq 5, 3) := by decide +kernel
theorem dX11_bars_15 : decode cX11_bars 15 = .ok (.iload_n 2, 1) := by decide +kernel
theorem dX11_bars_16 : decode cX11_bars 16 = .ok (.ireturn, 1) := by decide +kernel
theorem dX11_bars_17 : decode cX11_bars 17 = .ok (.aload_n 0, 1) := by decide +kernel
theorem dX11_bars_18 : decode cX11_bars 18 = .ok (.iload_n 1, 1) := by decide +kernel
theorem dX11_bars_19 : decode cX11_bars 19 = .ok (.invokevirtual 250, 3) := by decide +kernel
theorem dX11_bars_22 : decode cX11_bars 22 = .ok (.iinc 2 1, 3) := by decide +kernel
theorem dX11_bars_25 : decode cX11_bars 25 = .ok (.goto (-23), 3) := by decide +kernel
theorem dX11_bars_28 : decode cX11_bars 28 = .ok (.bipush (-9), 2) := by decide +kernel
theorem dX11_bars_30 : decode cX11_bars 30 = .ok (.ireturn, 1) := by decide +kernel
theorem dX11_together_0 : decode cX11_together 0 = .ok (.iload_n 1, 1) := by decide +kernel
theorem dX11_together_1 : decode cX11_together 1 = .ok (.i2l, 1) := by decide +kernel
theorem dX11_together_2 : decode cX11_together 2 = .ok (.lconst 0, 1) := by decide +kernel
theorem dX11_together_3 : decode cX11_together 3 = .ok (.ldc2_w 74, 3) := by decide +kernel
theorem dX11_together_6 : decode cX11_together 6 = .ok (.invokestatic 76, 3) := by decide +kernel
theorem dX11_together_9 : decode cX11_together 9 = .ok (.ifCond .ne 5, 3) := by decide +kernel
theorem dX11_together_12 : decode cX11_together 12 = .ok (.iconst (-1), 1) := by decide +kernel
theorem dX11_together_13 : decode cX11_together 13 = .ok (.ireturn, 1) := by decide +kernel
theorem dX11_together_14 : decode cX11_together 14 = .ok (.aload_n 0, 1) := by decide +kernel
theorem dX11_together_15 : decode cX11_together 15 = .ok (.getfield 119, 3) := by decide +kernel
theorem dX11_together_18 : decode cX11_together 18 = .ok (.ifCond .ne 6, 3) := by decide +kernel
theorem dX11_together_21 : decode cX11_together 21 = .ok (.bipush (-4), 2) := by decide +kernel
theorem dX11_together_23 : decode cX11_together 23 = .ok (.ireturn, 1) := by decide +kernel
theorem dX11_together_24 : decode cX11_together 24 = .ok (.aload_n 0, 1) := by decide +kernel
theorem dX11_together_25 : decode cX11_together 25 = .ok (.invokevirtual 189, 3) := by decide +kernel
theorem dX11_together_28 : decode cX11_together 28 = .ok (.aload_n 0, 1) := by decide +kernel
theorem dX11_together_29 : decode cX11_together 29 = .ok (.iload_n 1, 1) := by decide +kernel
theorem dX11_together_30 : decode cX11_together 30 = .ok (.invokevirtual 253, 3) := by decide +kernel
theorem dX11_together_33 : decode cX11_together 33 = .ok (.istore_n 2, 1) := by decide +kernel
theorem dX11_together_34 : decode cX11_together 34 = .ok (.iload_n 2, 1) := by decide +kernel
theorem dX11_together_35 : decode cX11_together 35 = .ok (.ifCond .ge 8, 3) := by decide +kernel
theorem dX11_together_38 : decode cX11_together 38 = .ok (.bipush (-9), 2) := by decide +kernel
theorem dX11_together_40 : decode cX11_together 40 = .ok (.goto 16, 3) := by decide +kernel
theorem dX11_together_43 : decode cX11_together 43 = .ok (.aload_n 0, 1) := by decide +kernel
theorem dX11_together_44 : decode cX11_together 44 = .ok (.aload_n 0, 1) := by decide +kernel
theorem dX11_together_45 : decode cX11_together 45 = .ok (.getfield 57, 3) := by decide +kernel
theorem dX11_together_48 : decode cX11_together 48 = .ok (.iconst 0, 1) := by decide +kernel
theorem dX11_together_49 : decode cX11_together 49 = .ok (.iaload, 1) := by decide +kernel
theorem dX11_together_50 : decode cX11_together 50 = .ok (.iconst 2, 1) := by decide +kernel
theorem dX11_together_51 : decode cX11_together 51 = .ok (.iadd, 1) := by decide +kernel
theorem dX11_together_52 : decode cX11_together 52 = .ok (.iload_n 2, 1) := by decide +kernel
theorem dX11_together_53 : decode cX11_together 53 = .ok (.invokevirtual 84, 3) := by decide +kernel
theorem dX11_together_56 : decode cX11_together 56 = .ok (.ireturn, 1) := by decide +kernel
theorem dX11_rule_0 : decode cX11_rule 0 = .ok (.aload_n 0, 1) := by decide +kernel
theorem dX11_rule_1 : decode cX11_rule 1 = .ok (.getfield 119, 3) := by decide +kernel
theorem dX11_rule_4 : decode cX11_rule 4 = .ok (.ifCond .ne 6, 3) := by decide +kernel
theorem dX11_rule_7 : decode cX11_rule 7 = .ok (.bipush (-4), 2) := by decide +kernel
theorem dX11_rule_9 : decode cX11_rule 9 = .ok (.ireturn, 1) := by decide +kernel
theorem dX11_rule_10 : decode cX11_rule 10 = .ok (.iconst 0, 1) := by decide +kernel
theorem dX11_rule_11 : decode cX11_rule 11 = .ok (.istore_n 1, 1) := by decide +kernel
theorem dX11_rule_12 : decode cX11_rule 12 = .ok (.bipush 99, 2) := by decide +kernel
theorem dX11_rule_14 : decode cX11_rule 14 = .ok (.istore_n 2, 1) := by decide +kernel
theorem dX11_rule_15 : decode cX11_rule 15 = .ok (.iconst 0, 1) := by decide +kernel
theorem dX11_rule_16 : decode cX11_rule 16 = .ok (.istore_n 3, 1) := by decide +kernel
theorem dX11_rule_17 : decode cX11_rule 17 = .ok (.iload_n 3, 1) := by decide +kernel
theorem dX11_rule_18 : decode cX11_rule 18 = .ok (.bipush 6, 2) := by decide +kernel
theorem dX11_rule_20 : decode cX11_rule 20 = .ok (.if_icmp .ge 55, 3) := by decide +kernel
theorem dX11_rule_23 : decode cX11_rule 23 = .ok (.aload_n 0, 1) := by decide +kernel
theorem dX11_rule_24 : decode cX11_rule 24 = .ok (.invokevirtual 189, 3) := by decide +kernel
theorem dX11_rule_27 : decode cX11_rule 27 = .ok (.aload_n 0, 1) := by decide +kernel
theorem dX11_rule_28 : decode cX11_rule 28 = .ok (.iload_n 3, 1) := by decide +kernel
theorem dX11_rule_29 : decode cX11_rule 29 = .ok (.invokevirtual 253, 3) := by decide +kernel
theorem dX11_rule_32 : decode cX11_rule 32 = .ok (.istore 4, 2) := by decide +kernel
theorem dX11_rule_34 : decode cX11_rule 34 = .ok (.iload 4, 2) := by decide +kernel
theorem dX11_rule_36 : decode cX11_rule 36 = .ok (.ifCond .lt 13, 3) := by decide +kernel
theorem dX11_rule_39 : decode cX11_rule 39 = .ok (.iload 4, 2) := by decide +kernel
theorem dX11_rule_41 : decode cX11_rule 41 = .ok (.iload_n 2, 1) := by decide +kernel
theorem dX11_rule_42 : decode cX11_rule 42 = .ok (.if_icmp .ge 7, 3) := by decide +kernel
theorem dX11_rule_45 : decode cX11_rule 45 = .ok (.iload_n 3, 1) := by decide +kernel
theorem dX11_rule_46 : decode cX11_rule 46 = .ok (.goto 4, 3) := by decide +kernel
theorem dX11_rule_49 : decode cX11_rule 49 = .ok (.iload_n 1, 1) := by decide +kernel
theorem dX11_rule_50 : decode cX11_rule 50 = .ok (.istore_n 1, 1) := by decide +kernel
theorem dX11_rule_51 : decode cX11_rule 51 = .ok (.iload 4, 2) := by decide +kernel
theorem dX11_rule_53 : decode cX11_rule 53 = .ok (.ifCond .lt 14, 3) := by decide +kernel
theorem dX11_rule_56 : decode cX11_rule 56 = .ok (.iload 4, 2) := by decide +kernel
theorem dX11_rule_58 : decode cX11_rule 58 = .ok (.iload_n 2, 1) := by decide +kernel
theorem dX11_rule_59 : decode cX11_rule 59 = .ok (.if_icmp .ge 8, 3) := by decide +kernel
theorem dX11_rule_62 : decode cX11_rule 62 = .ok (.iload 4, 2) := by decide +kernel
theorem dX11_rule_64 : decode cX11_rule 64 = .ok (.goto 4, 3) := by decide +kernel
theorem dX11_rule_67 : decode cX11_rule 67 = .ok (.iload_n 2, 1) := by decide +kernel
theorem dX11_rule_68 : decode cX11_rule 68 = .ok (.istore_n 2, 1) := by decide +kernel
theorem dX11_rule_69 : decode cX11_rule 69 = .ok (.iinc 3 1, 3) := by decide +kernel
theorem dX11_rule_72 : decode cX11_rule 72 = .ok (.goto (-55), 3) := by decide +kernel
theorem dX11_rule_75 : decode cX11_rule 75 = .ok (.aload_n 0, 1) := by decide +kernel
theorem dX11_rule_76 : decode cX11_rule 76 = .ok (.iload_n 2, 1) := by decide +kernel
theorem dX11_rule_77 : decode cX11_rule 77 = .ok (.iload_n 1, 1) := by decide +kernel
theorem dX11_rule_78 : decode cX11_rule 78 = .ok (.invokevirtual 84, 3) := by decide +kernel
theorem dX11_rule_81 : decode cX11_rule 81 = .ok (.ireturn, 1) := by decide +kernel
theorem dX11_signs_0 : decode cX11_signs 0 = .ok (.iload_n 1, 1) := by decide +kernel
theorem dX11_signs_1 : decode cX11_signs 1 = .ok (.i2l, 1) := by decide +kernel
theorem dX11_signs_2 : decode cX11_signs 2 = .ok (.lconst 0, 1) := by decide +kernel
theorem dX11_signs_3 : decode cX11_signs 3 = .ok (.ldc2_w 74, 3) := by decide +kernel
theorem dX11_signs_6 : decode cX11_signs 6 = .ok (.invokestatic 76, 3) := by decide +kernel
theorem dX11_signs_9 : decode cX11_signs 9 = .ok (.ifCond .ne 5, 3) := by decide +kernel
theorem dX11_signs_12 : decode cX11_signs 12 = .ok (.iconst (-1), 1) := by decide +kernel
theorem dX11_signs_13 : decode cX11_signs 13 = .ok (.ireturn, 1) := by decide +kernel
theorem dX11_signs_14 : decode cX11_signs 14 = .ok (.aload_n 0, 1) := by decide +kernel
theorem dX11_signs_15 : decode cX11_signs 15 = .ok (.getfield 119, 3) := by decide +kernel
theorem dX11_signs_18 : decode cX11_signs 18 = .ok (.ifCond .ne 6, 3) := by decide +kernel
theorem dX11_signs_21 : decode cX11_signs 21 = .ok (.bipush (-4), 2) := by decide +kernel
theorem dX11_signs_23 : decode cX11_signs 23 = .ok (.ireturn, 1) := by decide +kernel
theorem dX11_signs_24 : decode cX11_signs 24 = .ok (.iconst 0, 1) := by decide +kernel
theorem dX11_signs_25 : decode cX11_signs 25 = .ok (.istore_n 2, 1) := by decide +kernel
theorem dX11_signs_26 : decode cX11_signs 26 = .ok (.iconst 0, 1) := by decide +kernel
theorem dX11_signs_27 : decode cX11_signs 27 = .ok (.istore_n 3, 1) := by decide +kernel
theorem dX11_signs_28 : decode cX11_signs 28 = .ok (.iload_n 3, 1) := by decide +kernel
theorem dX11_signs_29 : decode cX11_signs 29 = .ok (.aload_n 0, 1) := by decide +kernel
theorem dX11_signs_30 : decode cX11_signs 30 = .ok (.invokevirtual 212, 3) := by decide +kernel
theorem dX11_signs_33 : decode cX11_signs 33 = .ok (.if_icmp .ge 33, 3) := by decide +kernel
theorem dX11_signs_36 : decode cX11_signs 36 = .ok (.iload_n 2, 1) := by decide +kernel
theorem dX11_signs_37 : decode cX11_signs 37 = .ok (.aload_n 0, 1) := by decide +kernel
theorem dX11_signs_38 : decode cX11_signs 38 = .ok (.iload_n 3, 1) := by decide +kernel
theorem dX11_signs_39 : decode cX11_signs 39 = .ok (.invokevirtual 209, 3) := by decide +kernel
theorem dX11_signs_42 : decode cX11_signs 42 = .ok (.ifCond .le 15, 3) := by decide +kernel
theorem dX11_signs_45 : decode cX11_signs 45 = .ok (.aload_n 0, 1) := by decide +kernel
theorem dX11_signs_46 : decode cX11_signs 46 = .ok (.iload_n 1, 1) := by decide +kernel
theorem dX11_signs_47 : decode cX11_signs 47 = .ok (.invokevirtual 253, 3) := by decide +kernel
theorem dX11_signs_50 : decode cX11_signs 50 = .ok (.ifCond .lt 7, 3) := by decide +kernel
theorem dX11_signs_53 : decode cX11_signs 53 = .ok (.iconst 1, 1) := by decide +kernel
theorem dX11_signs_54 : decode cX11_signs 54 = .ok (.goto 4, 3) := by decide +kernel
theorem dX11_signs_57 : decode cX11_signs 57 = .ok (.iconst 0, 1) := by decide +kernel
theorem dX11_signs_58 : decode cX11_signs 58 = .ok (.iadd, 1) := by decide +kernel
theorem dX11_signs_59 : decode cX11_signs 59 = .ok (.istore_n 2, 1) := by decide +kernel
theorem dX11_signs_60 : decode cX11_signs 60 = .ok (.iinc 3 1, 3) := by decide +kernel
theorem dX11_signs_63 : decode cX11_signs 63 = .ok (.goto (-35), 3) := by decide +kernel
theorem dX11_signs_66 : decode cX11_signs 66 = .ok (.iload_n 2, 1) := by decide +kernel
theorem dX11_signs_67 : decode cX11_signs 67 = .ok (.ireturn, 1) := by decide +kernel
theorem dX11_line_0 : decode cX11_line 0 = .ok (.aload_n 0, 1) := by decide +kernel
theorem dX11_line_1 : decode cX11_line 1 = .ok (.getfield 176, 3) := by decide +kernel
theorem dX11_line_4 : decode cX11_line 4 = .ok (.aload_n 0, 1) := by decide +kernel
theorem dX11_line_5 : decode cX11_line 5 = .ok (.getfield 119, 3) := by decide +kernel
theorem dX11_line_8 : decode cX11_line 8 = .ok (.if_icmp .lt 6, 3) := by decide +kernel
theorem dX11_line_11 : decode cX11_line 11 = .ok (.bipush (-4), 2) := by decide +kernel
theorem dX11_line_13 : decode cX11_line 13 = .ok (.ireturn, 1) := by decide +kernel
theorem dX11_line_14 : decode cX11_line 14 = .ok (.iconst 0, 1) := by decide +kernel
theorem dX11_line_15 : decode cX11_line 15 = .ok (.istore_n 1, 1) := by decide +kernel
theorem dX11_line_16 : decode cX11_line 16 = .ok (.aload_n 0, 1) := by decide +kernel
theorem dX11_line_17 : decode cX11_line 17 = .ok (.getfield 176, 3) := by decide +kernel
theorem dX11_line_20 : decode cX11_line 20 = .ok (.istore_n 2, 1) := by decide +kernel
theorem dX11_line_21 : decode cX11_line 21 = .ok (.iload_n 2, 1) := by decide +kernel
theorem dX11_line_22 : decode cX11_line 22 = .ok (.aload_n 0, 1) := by decide +kernel
theorem dX11_line_23 : decode cX11_line 23 = .ok (.getfield 119, 3) := by decide +kernel
theorem dX11_line_26 : decode cX11_line 26 = .ok (.if_icmp .ge 53, 3) := by decide +kernel
theorem dX11_line_29 : decode cX11_line 29 = .ok (.iload_n 2, 1) := by decide +kernel
theorem dX11_line_30 : decode cX11_line 30 = .ok (.aload_n 0, 1) := by decide +kernel
theorem dX11_line_31 : decode cX11_line 31 = .ok (.getfield 176, 3) := by decide +kernel
theorem dX11_line_34 : decode cX11_line 34 = .ok (.if_icmp .eq 13, 3) := by decide +kernel
theorem dX11_line_37 : decode cX11_line 37 = .ok (.aload_n 0, 1) := by decide +kernel
theorem dX11_line_38 : decode cX11_line 38 = .ok (.getfield 26, 3) := by decide +kernel
theorem dX11_line_41 : decode cX11_line 41 = .ok (.iload_n 2, 1) := by decide +kernel
theorem dX11_line_42 : decode cX11_line 42 = .ok (.iaload, 1) := by decide +kernel
theorem dX11_line_43 : decode cX11_line 43 = .ok (.iconst 3, 1) := by decide +kernel
theorem dX11_line_44 : decode cX11_line 44 = .ok (.if_icmp .eq 35, 3) := by decide +kernel
theorem dX11_line_47 : decode cX11_line 47 = .ok (.iload_n 1, 1) := by decide +kernel
theorem dX11_line_48 : decode cX11_line 48 = .ok (.aload_n 0, 1) := by decide +kernel
theorem dX11_line_49 : decode cX11_line 49 = .ok (.iload_n 2, 1) := by decide +kernel
theorem dX11_line_50 : decode cX11_line 50 = .ok (.invokevirtual 146, 3) := by decide +kernel
theorem dX11_line_53 : decode cX11_line 53 = .ok (.invokestatic 173, 3) := by decide +kernel
theorem dX11_line_56 : decode cX11_line 56 = .ok (.isub, 1) := by decide +kernel
theorem dX11_line_57 : decode cX11_line 57 = .ok (.istore_n 1, 1) := by decide +kernel
theorem dX11_line_58 : decode cX11_line 58 = .ok (.aload_n 0, 1) := by decide +kernel
theorem dX11_line_59 : decode cX11_line 59 = .ok (.invokevirtual 189, 3) := by decide +kernel
theorem dX11_line_62 : decode cX11_line 62 = .ok (.iload_n 1, 1) := by decide +kernel
theorem dX11_line_63 : decode cX11_line 63 = .ok (.aload_n 0, 1) := by decide +kernel
theorem dX11_line_64 : decode cX11_line 64 = .ok (.iload_n 2, 1) := by decide +kernel
theorem dX11_line_65 : decode cX11_line 65 = .ok (.invokevirtual 143, 3) := by decide +kernel
theorem dX11_line_68 : decode cX11_line 68 = .ok (.invokestatic 173, 3) := by decide +kernel
theorem dX11_line_71 : decode cX11_line 71 = .ok (.iadd, 1) := by decide +kernel
theorem dX11_line_72 : decode cX11_line 72 = .ok (.istore_n 1, 1) := by decide +kernel
theorem dX11_line_73 : decode cX11_line 73 = .ok (.iinc 2 1, 3) := by decide +kernel
theorem dX11_line_76 : decode cX11_line 76 = .ok (.goto (-55), 3) := by decide +kernel
theorem dX11_line_79 : decode cX11_line 79 = .ok (.aload_n 0, 1) := by decide +kernel
theorem dX11_line_80 : decode cX11_line 80 = .ok (.getfield 176, 3) := by decide +kernel
theorem dX11_line_83 : decode cX11_line 83 = .ok (.istore_n 3, 1) := by decide +kernel
theorem dX11_line_84 : decode cX11_line 84 = .ok (.iload_n 3, 1) := by decide +kernel
theorem dX11_line_85 : decode cX11_line 85 = .ok (.ifCond .le 19, 3) := by decide +kernel
theorem dX11_line_88 : decode cX11_line 88 = .ok (.aload_n 0, 1) := by decide +kernel
theorem dX11_line_89 : decode cX11_line 89 = .ok (.getfield 26, 3) := by decide +kernel
theorem dX11_line_92 : decode cX11_line 92 = .ok (.iload_n 3, 1) := by decide +kernel
theorem dX11_line_93 : decode cX11_line 93 = .ok (.iaload, 1) := by decide +kernel
theorem dX11_line_94 : decode cX11_line 94 = .ok (.iconst 3, 1) := by decide +kernel
theorem dX11_line_95 : decode cX11_line 95 = .ok (.if_icmp .eq 9, 3) := by decide +kernel
theorem dX11_line_98 : decode cX11_line 98 = .ok (.iinc 3 (-1), 3) := by decide +kernel
theorem dX11_line_101 : decode cX11_line 101 = .ok (.goto (-17), 3) := by decide +kernel
theorem dX11_line_104 : decode cX11_line 104 = .ok (.aload_n 0, 1) := by decide +kernel
theorem dX11_line_105 : decode cX11_line 105 = .ok (.aload_n 0, 1) := by decide +kernel
theorem dX11_line_106 : decode cX11_line 106 = .ok (.getfield 176, 3) := by decide +kernel
theorem dX11_line_109 : decode cX11_line 109 = .ok (.iload_n 3, 1) := by decide +kernel
theorem dX11_line_110 : decode cX11_line 110 = .ok (.isub, 1) := by decide +kernel
theorem dX11_line_111 : decode cX11_line 111 = .ok (.iload_n 1, 1) := by decide +kernel
theorem dX11_line_112 : decode cX11_line 112 = .ok (.ifCond .ge 7, 3) := by decide +kernel
theorem dX11_line_115 : decode cX11_line 115 = .ok (.iconst 0, 1) := by decide +kernel
theorem dX11_line_116 : decode cX11_line 116 = .ok (.goto 4, 3) := by decide +kernel
theorem dX11_line_119 : decode cX11_line 119 = .ok (.iload_n 1, 1) := by decide +kernel
theorem dX11_line_120 : decode cX11_line 120 = .ok (.invokevirtual 84, 3) := by decide +kernel
theorem dX11_line_123 : decode cX11_line 123 = .ok (.ireturn, 1) := by decide +kernel
theorem dX11_letter_0 : decode cX11_letter 0 = .ok (.aload_n 0, 1) := by decide +kernel
theorem dX11_letter_1 : decode cX11_letter 1 = .ok (.getfield 119, 3) := by decide +kernel
theorem dX11_letter_4 : decode cX11_letter 4 = .ok (.ifCond .ne 6, 3) := by decide +kernel
theorem dX11_letter_7 : decode cX11_letter 7 = .ok (.bipush (-4), 2) := by decide +kernel
theorem dX11_letter_9 : decode cX11_letter 9 = .ok (.ireturn, 1) := by decide +kernel
theorem dX11_letter_10 : decode cX11_letter 10 = .ok (.bipush (-9), 2) := by decide +kernel
theorem dX11_letter_12 : decode cX11_letter 12 = .ok (.istore_n 1, 1) := by decide +kernel
theorem dX11_letter_13 : decode cX11_letter 13 = .ok (.bipush 99, 2) := by decide +kernel
theorem dX11_letter_15 : decode cX11_letter 15 = .ok (.istore_n 2, 1) := by decide +kernel
theorem dX11_letter_16 : decode cX11_letter 16 = .ok (.iconst 0, 1) := by decide +kernel
theorem dX11_letter_17 : decode cX11_letter 17 = .ok (.istore_n 3, 1) := by decide +kernel
theorem dX11_letter_18 : decode cX11_letter 18 = .ok (.iload_n 3, 1) := by decide +kernel
theorem dX11_letter_19 : decode cX11_letter 19 = .ok (.aload_n 0, 1) := by decide +kernel
theorem dX11_letter_20 : decode cX11_letter 20 = .ok (.getfield 119, 3) := by decide +kernel
theorem dX11_letter_23 : decode cX11_letter 23 = .ok (.if_icmp .ge 59, 3) := by decide +kernel
theorem dX11_letter_26 : decode cX11_letter 26 = .ok (.iload_n 3, 1) := by decide +kernel
theorem dX11_letter_27 : decode cX11_letter 27 = .ok (.aload_n 0, 1) := by decide +kernel
theorem dX11_letter_28 : decode cX11_letter 28 = .ok (.getfield 176, 3) := by decide +kernel
theorem dX11_letter_31 : decode cX11_letter 31 = .ok (.if_icmp .le 12, 3) := by decide +kernel
theorem dX11_letter_34 : decode cX11_letter 34 = .ok (.iload_n 3, 1) := by decide +kernel
theorem dX11_letter_35 : decode cX11_letter 35 = .ok (.aload_n 0, 1) := by decide +kernel
theorem dX11_letter_36 : decode cX11_letter 36 = .ok (.getfield 176, 3) := by decide +kernel
theorem dX11_letter_39 : decode cX11_letter 39 = .ok (.isub, 1) := by decide +kernel
theorem dX11_letter_40 : decode cX11_letter 40 = .ok (.goto 9, 3) := by decide +kernel
theorem dX11_letter_43 : decode cX11_letter 43 = .ok (.aload_n 0, 1) := by decide +kernel
theorem dX11_letter_44 : decode cX11_letter 44 = .ok (.getfield 176, 3) := by decide +kernel
theorem dX11_letter_47 : decode cX11_letter 47 = .ok (.iload_n 3, 1) := by decide +kernel
theorem dX11_letter_48 : decode cX11_letter 48 = .ok (.isub, 1) := by decide +kernel
theorem dX11_letter_49 : decode cX11_letter 49 = .ok (.istore 4, 2) := by decide +kernel
theorem dX11_letter_51 : decode cX11_letter 51 = .ok (.aload_n 0, 1) := by decide +kernel
theorem dX11_letter_52 : decode cX11_letter 52 = .ok (.getfield 26, 3) := by decide +kernel
theorem dX11_letter_55 : decode cX11_letter 55 = .ok (.iload_n 3, 1) := by decide +kernel
theorem dX11_letter_56 : decode cX11_letter 56 = .ok (.iaload, 1) := by decide +kernel
theorem dX11_letter_57 : decode cX11_letter 57 = .ok (.iconst 3, 1) := by decide +kernel
theorem dX11_letter_58 : decode cX11_letter 58 = .ok (.if_icmp .ne 18, 3) := by decide +kernel
theorem dX11_letter_61 : decode cX11_letter 61 = .ok (.iload 4, 2) := by decide +kernel
theorem dX11_letter_63 : decode cX11_letter 63 = .ok (.iload_n 2, 1) := by decide +kernel
theorem dX11_letter_64 : decode cX11_letter 64 = .ok (.if_icmp .ge 12, 3) := by decide +kernel
theorem dX11_letter_67 : decode cX11_letter 67 = .ok (.aload_n 0, 1) := by decide +kernel
theorem dX11_letter_68 : decode cX11_letter 68 = .ok (.iload_n 3, 1) := by decide +kernel
theorem dX11_letter_69 : decode cX11_letter 69 = .ok (.invokevirtual 167, 3) := by decide +kernel
theorem dX11_letter_72 : decode cX11_letter 72 = .ok (.istore_n 1, 1) := by decide +kernel
theorem dX11_letter_73 : decode cX11_letter 73 = .ok (.iload 4, 2) := by decide +kernel
theorem dX11_letter_75 : decode cX11_letter 75 = .ok (.istore_n 2, 1) := by decide +kernel
theorem dX11_letter_76 : decode cX11_letter 76 = .ok (.iinc 3 1, 3) := by decide +kernel
theorem dX11_letter_79 : decode cX11_letter 79 = .ok (.goto (-61), 3) := by decide +kernel
theorem dX11_letter_82 : decode cX11_letter 82 = .ok (.iload_n 1, 1) := by decide +kernel
theorem dX11_letter_83 : decode cX11_letter 83 = .ok (.ifCond .ge 8, 3) := by decide +kernel
theorem dX11_letter_86 : decode cX11_letter 86 = .ok (.bipush (-9), 2) := by decide +kernel
theorem dX11_letter_88 : decode cX11_letter 88 = .ok (.goto 9, 3) := by decide +kernel
theorem dX11_letter_91 : decode cX11_letter 91 = .ok (.aload_n 0, 1) := by decide +kernel
theorem dX11_letter_92 : decode cX11_letter 92 = .ok (.iload_n 2, 1) := by decide +kernel
theorem dX11_letter_93 : decode cX11_letter 93 = .ok (.iload_n 1, 1) := by decide +kernel
theorem dX11_letter_94 : decode cX11_letter 94 = .ok (.invokevirtual 84, 3) := by decide +kernel
theorem dX11_letter_97 : decode cX11_letter 97 = .ok (.ireturn, 1) := by decide +kernel
theorem dX11_aloud_0 : decode cX11_aloud 0 = .ok (.aload_n 0, 1) := by decide +kernel
theorem dX11_aloud_1 : decode cX11_aloud 1 = .ok (.getfield 119, 3) := by decide +kernel
theorem dX11_aloud_4 : decode cX11_aloud 4 = .ok (.ifCond .ne 6, 3) := by decide +kernel
theorem dX11_aloud_7 : decode cX11_aloud 7 = .ok (.bipush (-4), 2) := by decide +kernel
theorem dX11_aloud_9 : decode cX11_aloud 9 = .ok (.ireturn, 1) := by decide +kernel
theorem dX11_aloud_10 : decode cX11_aloud 10 = .ok (.iconst 0, 1) := by decide +kernel
theorem dX11_aloud_11 : decode cX11_aloud 11 = .ok (.istore_n 1, 1) := by decide +kernel
theorem dX11_aloud_12 : decode cX11_aloud 12 = .ok (.sipush 9999, 3) := by decide +kernel
theorem dX11_aloud_15 : decode cX11_aloud 15 = .ok (.istore_n 2, 1) := by decide +kernel
theorem dX11_aloud_16 : decode cX11_aloud 16 = .ok (.iconst 0, 1) := by decide +kernel
theorem dX11_aloud_17 : decode cX11_aloud 17 = .ok (.istore_n 3, 1) := by decide +kernel
theorem dX11_aloud_18 : decode cX11_aloud 18 = .ok (.iconst 0, 1) := by decide +kernel
theorem dX11_aloud_19 : decode cX11_aloud 19 = .ok (.istore 4, 2) := by decide +kernel
theorem dX11_aloud_21 : decode cX11_aloud 21 = .ok (.iload 4, 2) := by decide +kernel
theorem dX11_aloud_23 : decode cX11_aloud 23 = .ok (.aload_n 0, 1) := by decide +kernel
theorem dX11_aloud_24 : decode cX11_aloud 24 = .ok (.getfield 116, 3) := by decide +kernel
theorem dX11_aloud_27 : decode cX11_aloud 27 = .ok (.if_icmp .ge 104, 3) := by decide +kernel
theorem dX11_aloud_30 : decode cX11_aloud 30 = .ok (.iconst 0, 1) := by decide +kernel
theorem dX11_aloud_31 : decode cX11_aloud 31 = .ok (.istore 5, 2) := by decide +kernel
theorem dX11_aloud_33 : decode cX11_aloud 33 = .ok (.iconst 0, 1) := by decide +kernel
theorem dX11_aloud_34 : decode cX11_aloud 34 = .ok (.istore_n 3, 1) := by decide +kernel
theorem dX11_aloud_35 : decode cX11_aloud 35 = .ok (.iconst 0, 1) := by decide +kernel
theorem dX11_aloud_36 : decode cX11_aloud 36 = .ok (.istore 6, 2) := by decide +kernel
theorem dX11_aloud_38 : decode cX11_aloud 38 = .ok (.iload 6, 2) := by decide +kernel
theorem dX11_aloud_40 : decode cX11_aloud 40 = .ok (.aload_n 0, 1) := by decide +kernel
theorem dX11_aloud_41 : decode cX11_aloud 41 = .ok (.invokevirtual 212, 3) := by decide +kernel
theorem dX11_aloud_44 : decode cX11_aloud 44 = .ok (.if_icmp .ge 55, 3) := by decide +kernel
theorem dX11_aloud_47 : decode cX11_aloud 47 = .ok (.aload_n 0, 1) := by decide +kernel
theorem dX11_aloud_48 : decode cX11_aloud 48 = .ok (.iload 6, 2) := by decide +kernel
theorem dX11_aloud_50 : decode cX11_aloud 50 = .ok (.invokevirtual 216, 3) := by decide +kernel
theorem dX11_aloud_53 : decode cX11_aloud 53 = .ok (.istore 7, 2) := by decide +kernel
theorem dX11_aloud_55 : decode cX11_aloud 55 = .ok (.iload_n 3, 1) := by decide +kernel
theorem dX11_aloud_56 : decode cX11_aloud 56 = .ok (.iload 7, 2) := by decide +kernel
theorem dX11_aloud_58 : decode cX11_aloud 58 = .ok (.ifCond .le 7, 3) := by decide +kernel
theorem dX11_aloud_61 : decode cX11_aloud 61 = .ok (.iconst 1, 1) := by decide +kernel
theorem dX11_aloud_62 : decode cX11_aloud 62 = .ok (.goto 4, 3) := by decide +kernel
theorem dX11_aloud_65 : decode cX11_aloud 65 = .ok (.iconst 0, 1) := by decide +kernel
theorem dX11_aloud_66 : decode cX11_aloud 66 = .ok (.iadd, 1) := by decide +kernel
theorem dX11_aloud_67 : decode cX11_aloud 67 = .ok (.istore_n 3, 1) := by decide +kernel
theorem dX11_aloud_68 : decode cX11_aloud 68 = .ok (.iload 5, 2) := by decide +kernel
theorem dX11_aloud_70 : decode cX11_aloud 70 = .ok (.iload 7, 2) := by decide +kernel
theorem dX11_aloud_72 : decode cX11_aloud 72 = .ok (.ifCond .le 17, 3) := by decide +kernel
theorem dX11_aloud_75 : decode cX11_aloud 75 = .ok (.aload_n 0, 1) := by decide +kernel
theorem dX11_aloud_76 : decode cX11_aloud 76 = .ok (.getfield 57, 3) := by decide +kernel
theorem dX11_aloud_79 : decode cX11_aloud 79 = .ok (.iload 4, 2) := by decide +kernel
theorem dX11_aloud_81 : decode cX11_aloud 81 = .ok (.iaload, 1) := by decide +kernel
theorem dX11_aloud_82 : decode cX11_aloud 82 = .ok (.ifCond .ne 7, 3) := by decide +kernel
theorem dX11_aloud_85 : decode cX11_aloud 85 = .ok (.iconst 1, 1) := by decide +kernel
theorem dX11_aloud_86 : decode cX11_aloud 86 = .ok (.goto 4, 3) := by decide +kernel
theorem dX11_aloud_89 : decode cX11_aloud 89 = .ok (.iconst 0, 1) := by decide +kernel
theorem dX11_aloud_90 : decode cX11_aloud 90 = .ok (.iadd, 1) := by decide +kernel
theorem dX11_aloud_91 : decode cX11_aloud 91 = .ok (.istore 5, 2) := by decide +kernel
theorem dX11_aloud_93 : decode cX11_aloud 93 = .ok (.iinc 6 1, 3) := by decide +kernel
theorem dX11_aloud_96 : decode cX11_aloud 96 = .ok (.goto (-58), 3) := by decide +kernel
theorem dX11_aloud_99 : decode cX11_aloud 99 = .ok (.iload 5, 2) := by decide +kernel
theorem dX11_aloud_101 : decode cX11_aloud 101 = .ok (.iload_n 2, 1) := by decide +kernel
theorem dX11_aloud_102 : decode cX11_aloud 102 = .ok (.if_icmp .ge 8, 3) := by decide +kernel
theorem dX11_aloud_105 : decode cX11_aloud 105 = .ok (.iload 4, 2) := by decide +kernel
theorem dX11_aloud_107 : decode cX11_aloud 107 = .ok (.goto 4, 3) := by decide +kernel
theorem dX11_aloud_110 : decode cX11_aloud 110 = .ok (.iload_n 1, 1) := by decide +kernel
theorem dX11_aloud_111 : decode cX11_aloud 111 = .ok (.istore_n 1, 1) := by decide +kernel
theorem dX11_aloud_112 : decode cX11_aloud 112 = .ok (.iload 5, 2) := by decide +kernel
theorem dX11_aloud_114 : decode cX11_aloud 114 = .ok (.iload_n 2, 1) := by decide +kernel
theorem dX11_aloud_115 : decode cX11_aloud 115 = .ok (.if_icmp .ge 8, 3) := by decide +kernel
theorem dX11_aloud_118 : decode cX11_aloud 118 = .ok (.iload 5, 2) := by decide +kernel
theorem dX11_aloud_120 : decode cX11_aloud 120 = .ok (.goto 4, 3) := by decide +kernel
theorem dX11_aloud_123 : decode cX11_aloud 123 = .ok (.iload_n 2, 1) := by decide +kernel
theorem dX11_aloud_124 : decode cX11_aloud 124 = .ok (.istore_n 2, 1) := by decide +kernel
theorem dX11_aloud_125 : decode cX11_aloud 125 = .ok (.iinc 4 1, 3) := by decide +kernel
theorem dX11_aloud_128 : decode cX11_aloud 128 = .ok (.goto (-107), 3) := by decide +kernel
theorem dX11_aloud_131 : decode cX11_aloud 131 = .ok (.iload_n 3, 1) := by decide +kernel
theorem dX11_aloud_132 : decode cX11_aloud 132 = .ok (.ifCond .ne 11, 3) := by decide +kernel
theorem dX11_aloud_135 : decode cX11_aloud 135 = .ok (.aload_n 0, 1) := by decide +kernel
theorem dX11_aloud_136 : decode cX11_aloud 136 = .ok (.iconst 4, 1) := by decide +kernel
theorem dX11_aloud_137 : decode cX11_aloud 137 = .ok (.invokevirtual 80, 3) := by decide +kernel
theorem dX11_aloud_140 : decode cX11_aloud 140 = .ok (.goto 9, 3) := by decide +kernel
theorem dX11_aloud_143 : decode cX11_aloud 143 = .ok (.aload_n 0, 1) := by decide +kernel
theorem dX11_aloud_144 : decode cX11_aloud 144 = .ok (.iload_n 2, 1) := by decide +kernel
theorem dX11_aloud_145 : decode cX11_aloud 145 = .ok (.iload_n 1, 1) := by decide +kernel
theorem dX11_aloud_146 : decode cX11_aloud 146 = .ok (.invokevirtual 84, 3) := by decide +kernel
theorem dX11_aloud_149 : decode cX11_aloud 149 = .ok (.ireturn, 1) := by decide +kernel
theorem dX11_lots_0 : decode cX11_lots 0 = .ok (.iload_n 1, 1) := by decide +kernel
theorem dX11_lots_1 : decode cX11_lots 1 = .ok (.i2l, 1) := by decide +kernel
theorem dX11_lots_2 : decode cX11_lots 2 = .ok (.lconst 1, 1) := by decide +kernel
theorem dX11_lots_3 : decode cX11_lots 3 = .ok (.ldc2_w 256, 3) := by decide +kernel
theorem dX11_lots_6 : decode cX11_lots 6 = .ok (.invokestatic 76, 3) := by decide +kernel
theorem dX11_lots_9 : decode cX11_lots 9 = .ok (.ifCond .eq 15, 3) := by decide +kernel
theorem dX11_lots_12 : decode cX11_lots 12 = .ok (.iload_n 2, 1) := by decide +kernel
theorem dX11_lots_13 : decode cX11_lots 13 = .ok (.i2l, 1) := by decide +kernel
theorem dX11_lots_14 : decode cX11_lots 14 = .ok (.lconst 1, 1) := by decide +kernel
theorem dX11_lots_15 : decode cX11_lots 15 = .ok (.ldc2_w 258, 3) := by decide +kernel
theorem dX11_lots_18 : decode cX11_lots 18 = .ok (.invokestatic 76, 3) := by decide +kernel
theorem dX11_lots_21 : decode cX11_lots 21 = .ok (.ifCond .ne 5, 3) := by decide +kernel
theorem dX11_lots_24 : decode cX11_lots 24 = .ok (.iconst (-1), 1) := by decide +kernel
theorem dX11_lots_25 : decode cX11_lots 25 = .ok (.ireturn, 1) := by decide +kernel
theorem dX11_lots_26 : decode cX11_lots 26 = .ok (.aload_n 0, 1) := by decide +kernel
theorem dX11_lots_27 : decode cX11_lots 27 = .ok (.getfield 176, 3) := by decide +kernel
theorem dX11_lots_30 : decode cX11_lots 30 = .ok (.aload_n 0, 1) := by decide +kernel
theorem dX11_lots_31 : decode cX11_lots 31 = .ok (.getfield 119, 3) := by decide +kernel
theorem dX11_lots_34 : decode cX11_lots 34 = .ok (.if_icmp .lt 6, 3) := by decide +kernel
theorem dX11_lots_37 : decode cX11_lots 37 = .ok (.bipush (-4), 2) := by decide +kernel
theorem dX11_lots_39 : decode cX11_lots 39 = .ok (.ireturn, 1) := by decide +kernel
theorem dX11_lots_40 : decode cX11_lots 40 = .ok (.iload_n 2, 1) := by decide +kernel
theorem dX11_lots_41 : decode cX11_lots 41 = .ok (.i2l, 1) := by decide +kernel
theorem dX11_lots_42 : decode cX11_lots 42 = .ok (.lstore_n 3, 1) := by decide +kernel
theorem dX11_lots_43 : decode cX11_lots 43 = .ok (.iconst 0, 1) := by decide +kernel
theorem dX11_lots_44 : decode cX11_lots 44 = .ok (.istore 5, 2) := by decide +kernel
theorem dX11_lots_46 : decode cX11_lots 46 = .ok (.iload 5, 2) := by decide +kernel
theorem dX11_lots_48 : decode cX11_lots 48 = .ok (.iload_n 1, 1) := by decide +kernel
theorem dX11_lots_49 : decode cX11_lots 49 = .ok (.if_icmp .ge 147, 3) := by decide +kernel
theorem dX11_lots_52 : decode cX11_lots 52 = .ok (.aload_n 0, 1) := by decide +kernel
theorem dX11_lots_53 : decode cX11_lots 53 = .ok (.getfield 176, 3) := by decide +kernel
theorem dX11_lots_56 : decode cX11_lots 56 = .ok (.aload_n 0, 1) := by decide +kernel
theorem dX11_lots_57 : decode cX11_lots 57 = .ok (.getfield 119, 3) := by decide +kernel
theorem dX11_lots_60 : decode cX11_lots 60 = .ok (.if_icmp .ge 136, 3) := by decide +kernel
theorem dX11_lots_63 : decode cX11_lots 63 = .ok (.aload_n 0, 1) := by decide +kernel
theorem dX11_lots_64 : decode cX11_lots 64 = .ok (.invokevirtual 192, 3) := by decide +kernel
theorem dX11_lots_67 : decode cX11_lots 67 = .ok (.ifCond .ne 129, 3) := by decide +kernel
theorem dX11_lots_70 : decode cX11_lots 70 = .ok (.lload_n 3, 1) := by decide +kernel
theorem dX11_lots_71 : decode cX11_lots 71 = .ok (.ldc2_w 260, 3) := by decide +kernel
theorem dX11_lots_74 : decode cX11_lots 74 = .ok (.lmul, 1) := by decide +kernel
theorem dX11_lots_75 : decode cX11_lots 75 = .ok (.ldc2_w 262, 3) := by decide +kernel
theorem dX11_lots_78 : decode cX11_lots 78 = .ok (.lrem, 1) := by decide +kernel
theorem dX11_lots_79 : decode cX11_lots 79 = .ok (.lstore_n 3, 1) := by decide +kernel
theorem dX11_lots_80 : decode cX11_lots 80 = .ok (.lload_n 3, 1) := by decide +kernel
theorem dX11_lots_81 : decode cX11_lots 81 = .ok (.aload_n 0, 1) := by decide +kernel
theorem dX11_lots_82 : decode cX11_lots 82 = .ok (.getfield 116, 3) := by decide +kernel
theorem dX11_lots_85 : decode cX11_lots 85 = .ok (.i2l, 1) := by decide +kernel
theorem dX11_lots_86 : decode cX11_lots 86 = .ok (.lrem, 1) := by decide +kernel
theorem dX11_lots_87 : decode cX11_lots 87 = .ok (.l2i, 1) := by decide +kernel
theorem dX11_lots_88 : decode cX11_lots 88 = .ok (.istore 6, 2) := by decide +kernel
theorem dX11_lots_90 : decode cX11_lots 90 = .ok (.lload_n 3, 1) := by decide +kernel
theorem dX11_lots_91 : decode cX11_lots 91 = .ok (.ldc2_w 264, 3) := by decide +kernel
theorem dX11_lots_94 : decode cX11_lots 94 = .ok (.ldiv, 1) := by decide +kernel
theorem dX11_lots_95 : decode cX11_lots 95 = .ok (.ldc2_w 152, 3) := by decide +kernel
theorem dX11_lots_98 : decode cX11_lots 98 = .ok (.lrem, 1) := by decide +kernel
theorem dX11_lots_99 : decode cX11_lots 99 = .ok (.lconst 1, 1) := by decide +kernel
theorem dX11_lots_100 : decode cX11_lots 100 = .ok (.lcmp, 1) := by decide +kernel
theorem dX11_lots_101 : decode cX11_lots 101 = .ok (.ifCond .ne 7, 3) := by decide +kernel
theorem dX11_lots_104 : decode cX11_lots 104 = .ok (.iconst 1, 1) := by decide +kernel
theorem dX11_lots_105 : decode cX11_lots 105 = .ok (.goto 4, 3) := by decide +kernel
theorem dX11_lots_108 : decode cX11_lots 108 = .ok (.iconst (-1), 1) := by decide +kernel
theorem dX11_lots_109 : decode cX11_lots 109 = .ok (.istore 7, 2) := by decide +kernel
theorem dX11_lots_111 : decode cX11_lots 111 = .ok (.lload_n 3, 1) := by decide +kernel
theorem dX11_lots_112 : decode cX11_lots 112 = .ok (.ldc2_w 266, 3) := by decide +kernel
theorem dX11_lots_115 : decode cX11_lots 115 = .ok (.ldiv, 1) := by decide +kernel
theorem dX11_lots_116 : decode cX11_lots 116 = .ok (.aload_n 0, 1) := by decide +kernel
theorem dX11_lots_117 : decode cX11_lots 117 = .ok (.getfield 26, 3) := by decide +kernel
theorem dX11_lots_120 : decode cX11_lots 120 = .ok (.aload_n 0, 1) := by decide +kernel
theorem dX11_lots_121 : decode cX11_lots 121 = .ok (.getfield 176, 3) := by decide +kernel
theorem dX11_lots_124 : decode cX11_lots 124 = .ok (.iaload, 1) := by decide +kernel
theorem dX11_lots_125 : decode cX11_lots 125 = .ok (.iconst 4, 1) := by decide +kernel
theorem dX11_lots_126 : decode cX11_lots 126 = .ok (.if_icmp .ne 9, 3) := by decide +kernel
theorem dX11_lots_129 : decode cX11_lots 129 = .ok (.ldc2_w 152, 3) := by decide +kernel
theorem dX11_lots_132 : decode cX11_lots 132 = .ok (.goto 6, 3) := by decide +kernel
theorem dX11_lots_135 : decode cX11_lots 135 = .ok (.ldc2_w 268, 3) := by decide +kernel
theorem dX11_lots_138 : decode cX11_lots 138 = .ok (.lrem, 1) := by decide +kernel
theorem dX11_lots_139 : decode cX11_lots 139 = .ok (.lconst 0, 1) := by decide +kernel
theorem dX11_lots_140 : decode cX11_lots 140 = .ok (.lcmp, 1) := by decide +kernel
theorem dX11_lots_141 : decode cX11_lots 141 = .ok (.ifCond .ne 35, 3) := by decide +kernel
theorem dX11_lots_144 : decode cX11_lots 144 = .ok (.aload_n 0, 1) := by decide +kernel
theorem dX11_lots_145 : decode cX11_lots 145 = .ok (.getfield 44, 3) := by decide +kernel
theorem dX11_lots_148 : decode cX11_lots 148 = .ok (.iload 6, 2) := by decide +kernel
theorem dX11_lots_150 : decode cX11_lots 150 = .ok (.iaload, 1) := by decide +kernel
theorem dX11_lots_151 : decode cX11_lots 151 = .ok (.iload 7, 2) := by decide +kernel
theorem dX11_lots_153 : decode cX11_lots 153 = .ok (.iadd, 1) := by decide +kernel
theorem dX11_lots_154 : decode cX11_lots 154 = .ok (.i2l, 1) := by decide +kernel
theorem dX11_lots_155 : decode cX11_lots 155 = .ok (.ldc2_w 200, 3) := by decide +kernel
theorem dX11_lots_158 : decode cX11_lots 158 = .ok (.ldc2_w 152, 3) := by decide +kernel
theorem dX11_lots_161 : decode cX11_lots 161 = .ok (.invokestatic 76, 3) := by decide +kernel
theorem dX11_lots_164 : decode cX11_lots 164 = .ok (.ifCond .eq 12, 3) := by decide +kernel
theorem dX11_lots_167 : decode cX11_lots 167 = .ok (.aload_n 0, 1) := by decide +kernel
theorem dX11_lots_168 : decode cX11_lots 168 = .ok (.iconst 1, 1) := by decide +kernel
theorem dX11_lots_169 : decode cX11_lots 169 = .ok (.iload 6, 2) := by decide +kernel
theorem dX11_lots_171 : decode cX11_lots 171 = .ok (.iload 7, 2) := by decide +kernel
theorem dX11_lots_173 : decode cX11_lots 173 = .ok (.invokevirtual 196, 3) := by decide +kernel
theorem dX11_lots_176 : decode cX11_lots 176 = .ok (.aload_n 0, 1) := by decide +kernel
theorem dX11_lots_177 : decode cX11_lots 177 = .ok (.invokevirtual 192, 3) := by decide +kernel
theorem dX11_lots_180 : decode cX11_lots 180 = .ok (.ifCond .ne 13, 3) := by decide +kernel
theorem dX11_lots_183 : decode cX11_lots 183 = .ok (.aload_n 0, 1) := by decide +kernel
theorem dX11_lots_184 : decode cX11_lots 184 = .ok (.iconst 0, 1) := by decide +kernel
theorem dX11_lots_185 : decode cX11_lots 185 = .ok (.iconst 0, 1) := by decide +kernel
theorem dX11_lots_186 : decode cX11_lots 186 = .ok (.iconst 0, 1) := by decide +kernel
theorem dX11_lots_187 : decode cX11_lots 187 = .ok (.invokevirtual 196, 3) := by decide +kernel
theorem dX11_lots_190 : decode cX11_lots 190 = .ok (.iinc 5 1, 3) := by decide +kernel
theorem dX11_lots_193 : decode cX11_lots 193 = .ok (.goto (-147), 3) := by decide +kernel
theorem dX11_lots_196 : decode cX11_lots 196 = .ok (.iload 5, 2) := by decide +kernel
theorem dX11_lots_198 : decode cX11_lots 198 = .ok (.ireturn, 1) := by decide +kernel
theorem dX11_asked_0 : decode cX11_asked 0 = .ok (.aload_n 0, 1) := by decide +kernel
theorem dX11_asked_1 : decode cX11_asked 1 = .ok (.getfield 71, 3) := by decide +kernel
theorem dX11_asked_4 : decode cX11_asked 4 = .ok (.ireturn, 1) := by decide +kernel
theorem dX11_upper_0 : decode cX11_upper 0 = .ok (.aload_n 0, 1) := by decide +kernel
theorem dX11_upper_1 : decode cX11_upper 1 = .ok (.getfield 219, 3) := by decide +kernel
theorem dX11_upper_4 : decode cX11_upper 4 = .ok (.lreturn, 1) := by decide +kernel
theorem dX11_lower_0 : decode cX11_lower 0 = .ok (.aload_n 0, 1) := by decide +kernel
theorem dX11_lower_1 : decode cX11_lower 1 = .ok (.getfield 50, 3) := by decide +kernel
theorem dX11_lower_4 : decode cX11_lower 4 = .ok (.lreturn, 1) := by decide +kernel
theorem dX11_counts_0 : decode cX11_counts 0 = .ok (.iconst 0, 1) := by decide +kernel
theorem dX11_counts_1 : decode cX11_counts 1 = .ok (.istore_n 2, 1) := by decide +kernel
theorem dX11_counts_2 : decode cX11_counts 2 = .ok (.iload_n 1, 1) := by decide +kernel
theorem dX11_counts_3 : decode cX11_counts 3 = .ok (.tableswitch 180 0 7 #[45, 50, 55, 62, 97, 106, 115, 148], 45) := by decide +kernel
theorem dX11_counts_48 : decode cX11_counts 48 = .ok (.aload_n 0, 1) := by decide +kernel
theorem dX11_counts_49 : decode cX11_counts 49 = .ok (.getfield 116, 3) := by decide +kernel
theorem dX11_counts_52 : decode cX11_counts 52 = .ok (.ireturn, 1) := by decide +kernel
theorem dX11_counts_53 : decode cX11_counts 53 = .ok (.aload_n 0, 1) := by decide +kernel
theorem dX11_counts_54 : decode cX11_counts 54 = .ok (.getfield 119, 3) := by decide +kernel
theorem dX11_counts_57 : decode cX11_counts 57 = .ok (.ireturn, 1) := by decide +kernel
theorem dX11_counts_58 : decode cX11_counts 58 = .ok (.aload_n 0, 1) := by decide +kernel
theorem dX11_counts_59 : decode cX11_counts 59 = .ok (.getfield 38, 3) := by decide +kernel
theorem dX11_counts_62 : decode cX11_counts 62 = .ok (.iconst 0, 1) := by decide +kernel
theorem dX11_counts_63 : decode cX11_counts 63 = .ok (.iaload, 1) := by decide +kernel
theorem dX11_counts_64 : decode cX11_counts 64 = .ok (.ireturn, 1) := by decide +kernel
theorem dX11_counts_65 : decode cX11_counts 65 = .ok (.iconst 0, 1) := by decide +kernel
theorem dX11_counts_66 : decode cX11_counts 66 = .ok (.istore_n 3, 1) := by decide +kernel
theorem dX11_counts_67 : decode cX11_counts 67 = .ok (.iload_n 3, 1) := by decide +kernel
theorem dX11_counts_68 : decode cX11_counts 68 = .ok (.aload_n 0, 1) := by decide +kernel
theorem dX11_counts_69 : decode cX11_counts 69 = .ok (.getfield 116, 3) := by decide +kernel
theorem dX11_counts_72 : decode cX11_counts 72 = .ok (.if_icmp .ge 26, 3) := by decide +kernel
theorem dX11_counts_75 : decode cX11_counts 75 = .ok (.iload_n 2, 1) := by decide +kernel
theorem dX11_counts_76 : decode cX11_counts 76 = .ok (.aload_n 0, 1) := by decide +kernel
theorem dX11_counts_77 : decode cX11_counts 77 = .ok (.getfield 44, 3) := by decide +kernel
theorem dX11_counts_80 : decode cX11_counts 80 = .ok (.iload_n 3, 1) := by decide +kernel
theorem dX11_counts_81 : decode cX11_counts 81 = .ok (.iaload, 1) := by decide +kernel
theorem dX11_counts_82 : decode cX11_counts 82 = .ok (.ifCond .eq 7, 3) := by decide +kernel
theorem dX11_counts_85 : decode cX11_counts 85 = .ok (.iconst 1, 1) := by decide +kernel
theorem dX11_counts_86 : decode cX11_counts 86 = .ok (.goto 4, 3) := by decide +kernel
theorem dX11_counts_89 : decode cX11_counts 89 = .ok (.iconst 0, 1) := by decide +kernel
theorem dX11_counts_90 : decode cX11_counts 90 = .ok (.iadd, 1) := by decide +kernel
theorem dX11_counts_91 : decode cX11_counts 91 = .ok (.istore_n 2, 1) := by decide +kernel
theorem dX11_counts_92 : decode cX11_counts 92 = .ok (.iinc 3 1, 3) := by decide +kernel
theorem dX11_counts_95 : decode cX11_counts 95 = .ok (.goto (-28), 3) := by decide +kernel
theorem dX11_counts_98 : decode cX11_counts 98 = .ok (.iload_n 2, 1) := by decide +kernel
theorem dX11_counts_99 : decode cX11_counts 99 = .ok (.ireturn, 1) := by decide +kernel
theorem dX11_counts_100 : decode cX11_counts 100 = .ok (.aload_n 0, 1) := by decide +kernel
theorem dX11_counts_101 : decode cX11_counts 101 = .ok (.aload_n 0, 1) := by decide +kernel
theorem dX11_counts_102 : decode cX11_counts 102 = .ok (.getfield 119, 3) := by decide +kernel
theorem dX11_counts_105 : decode cX11_counts 105 = .ok (.invokevirtual 167, 3) := by decide +kernel
theorem dX11_counts_108 : decode cX11_counts 108 = .ok (.ireturn, 1) := by decide +kernel
theorem dX11_counts_109 : decode cX11_counts 109 = .ok (.aload_n 0, 1) := by decide +kernel
theorem dX11_counts_110 : decode cX11_counts 110 = .ok (.aload_n 0, 1) := by decide +kernel
theorem dX11_counts_111 : decode cX11_counts 111 = .ok (.getfield 119, 3) := by decide +kernel
theorem dX11_counts_114 : decode cX11_counts 114 = .ok (.invokevirtual 164, 3) := by decide +kernel
theorem dX11_counts_117 : decode cX11_counts 117 = .ok (.ireturn, 1) := by decide +kernel
theorem dX11_counts_118 : decode cX11_counts 118 = .ok (.iconst 0, 1) := by decide +kernel
theorem dX11_counts_119 : decode cX11_counts 119 = .ok (.istore_n 3, 1) := by decide +kernel
theorem dX11_counts_120 : decode cX11_counts 120 = .ok (.iload_n 3, 1) := by decide +kernel
theorem dX11_counts_121 : decode cX11_counts 121 = .ok (.bipush 6, 2) := by decide +kernel
theorem dX11_counts_123 : decode cX11_counts 123 = .ok (.if_icmp .ge 26, 3) := by decide +kernel
theorem dX11_counts_126 : decode cX11_counts 126 = .ok (.iload_n 2, 1) := by decide +kernel
theorem dX11_counts_127 : decode cX11_counts 127 = .ok (.aload_n 0, 1) := by decide +kernel
theorem dX11_counts_128 : decode cX11_counts 128 = .ok (.getfield 7, 3) := by decide +kernel
theorem dX11_counts_131 : decode cX11_counts 131 = .ok (.iload_n 3, 1) := by decide +kernel
theorem dX11_counts_132 : decode cX11_counts 132 = .ok (.iaload, 1) := by decide +kernel
theorem dX11_counts_133 : decode cX11_counts 133 = .ok (.ifCond .ge 7, 3) := by decide +kernel
theorem dX11_counts_136 : decode cX11_counts 136 = .ok (.iconst 0, 1) := by decide +kernel
theorem dX11_counts_137 : decode cX11_counts 137 = .ok (.goto 4, 3) := by decide +kernel
theorem dX11_counts_140 : decode cX11_counts 140 = .ok (.iconst 1, 1) := by decide +kernel
theorem dX11_counts_141 : decode cX11_counts 141 = .ok (.iadd, 1) := by decide +kernel
theorem dX11_counts_142 : decode cX11_counts 142 = .ok (.istore_n 2, 1) := by decide +kernel
theorem dX11_counts_143 : decode cX11_counts 143 = .ok (.iinc 3 1, 3) := by decide +kernel
theorem dX11_counts_146 : decode cX11_counts 146 = .ok (.goto (-26), 3) := by decide +kernel
theorem dX11_counts_149 : decode cX11_counts 149 = .ok (.iload_n 2, 1) := by decide +kernel
theorem dX11_counts_150 : decode cX11_counts 150 = .ok (.ireturn, 1) := by decide +kernel
theorem dX11_counts_151 : decode cX11_counts 151 = .ok (.iconst 0, 1) := by decide +kernel
theorem dX11_counts_152 : decode cX11_counts 152 = .ok (.istore_n 3, 1) := by decide +kernel
theorem dX11_counts_153 : decode cX11_counts 153 = .ok (.iload_n 3, 1) := by decide +kernel
theorem dX11_counts_154 : decode cX11_counts 154 = .ok (.iconst 4, 1) := by decide +kernel
theorem dX11_counts_155 : decode cX11_counts 155 = .ok (.if_icmp .ge 26, 3) := by decide +kernel
theorem dX11_counts_158 : decode cX11_counts 158 = .ok (.iload_n 2, 1) := by decide +kernel
theorem dX11_counts_159 : decode cX11_counts 159 = .ok (.aload_n 0, 1) := by decide +kernel
theorem dX11_counts_160 : decode cX11_counts 160 = .ok (.getfield 16, 3) := by decide +kernel
theorem dX11_counts_163 : decode cX11_counts 163 = .ok (.iload_n 3, 1) := by decide +kernel
theorem dX11_counts_164 : decode cX11_counts 164 = .ok (.iaload, 1) := by decide +kernel
theorem dX11_counts_165 : decode cX11_counts 165 = .ok (.ifCond .ge 7, 3) := by decide +kernel
theorem dX11_counts_168 : decode cX11_counts 168 = .ok (.iconst 0, 1) := by decide +kernel
theorem dX11_counts_169 : decode cX11_counts 169 = .ok (.goto 4, 3) := by decide +kernel
theorem dX11_counts_172 : decode cX11_counts 172 = .ok (.iconst 1, 1) := by decide +kernel
theorem dX11_counts_173 : decode cX11_counts 173 = .ok (.iadd, 1) := by decide +kernel
theorem dX11_counts_174 : decode cX11_counts 174 = .ok (.istore_n 2, 1) := by decide +kernel
theorem dX11_counts_175 : decode cX11_counts 175 = .ok (.iinc 3 1, 3) := by decide +kernel
theorem dX11_counts_178 : decode cX11_counts 178 = .ok (.goto (-25), 3) := by decide +kernel
theorem dX11_counts_181 : decode cX11_counts 181 = .ok (.iload_n 2, 1) := by decide +kernel
theorem dX11_counts_182 : decode cX11_counts 182 = .ok (.ireturn, 1) := by decide +kernel
theorem dX11_counts_183 : decode cX11_counts 183 = .ok (.iconst 1, 1) := by decide +kernel
theorem dX11_counts_184 : decode cX11_counts 184 = .ok (.istore_n 3, 1) := by decide +kernel
theorem dX11_counts_185 : decode cX11_counts 185 = .ok (.iload_n 3, 1) := by decide +kernel
theorem dX11_counts_186 : decode cX11_counts 186 = .ok (.iconst 4, 1) := by decide +kernel
theorem dX11_counts_187 : decode cX11_counts 187 = .ok (.if_icmp .ge 26, 3) := by decide +kernel
theorem dX11_counts_190 : decode cX11_counts 190 = .ok (.iload_n 2, 1) := by decide +kernel
theorem dX11_counts_191 : decode cX11_counts 191 = .ok (.aload_n 0, 1) := by decide +kernel
theorem dX11_counts_192 : decode cX11_counts 192 = .ok (.getfield 38, 3) := by decide +kernel
theorem dX11_counts_195 : decode cX11_counts 195 = .ok (.iload_n 3, 1) := by decide +kernel
theorem dX11_counts_196 : decode cX11_counts 196 = .ok (.iaload, 1) := by decide +kernel
theorem dX11_counts_197 : decode cX11_counts 197 = .ok (.ifCond .ge 7, 3) := by decide +kernel
theorem dX11_counts_200 : decode cX11_counts 200 = .ok (.iconst 0, 1) := by decide +kernel
theorem dX11_counts_201 : decode cX11_counts 201 = .ok (.goto 4, 3) := by decide +kernel
theorem dX11_counts_204 : decode cX11_counts 204 = .ok (.iconst 1, 1) := by decide +kernel
theorem dX11_counts_205 : decode cX11_counts 205 = .ok (.iadd, 1) := by decide +kernel
theorem dX11_counts_206 : decode cX11_counts 206 = .ok (.istore_n 2, 1) := by decide +kernel
theorem dX11_counts_207 : decode cX11_counts 207 = .ok (.iinc 3 1, 3) := by decide +kernel
theorem dX11_counts_210 : decode cX11_counts 210 = .ok (.goto (-25), 3) := by decide +kernel
theorem dX11_counts_213 : decode cX11_counts 213 = .ok (.iload_n 2, 1) := by decide +kernel
theorem dX11_counts_214 : decode cX11_counts 214 = .ok (.ireturn, 1) := by decide +kernel
theorem dX11_count_0 : decode cX11_count 0 = .ok (.iload_n 1, 1) := by decide +kernel
theorem dX11_count_1 : decode cX11_count 1 = .ok (.i2l, 1) := by decide +kernel
theorem dX11_count_2 : decode cX11_count 2 = .ok (.lconst 0, 1) := by decide +kernel
theorem dX11_count_3 : decode cX11_count 3 = .ok (.ldc2_w 270, 3) := by decide +kernel
theorem dX11_count_6 : decode cX11_count 6 = .ok (.invokestatic 76, 3) := by decide +kernel
theorem dX11_count_9 : decode cX11_count 9 = .ok (.ifCond .eq 11, 3) := by decide +kernel
theorem dX11_count_12 : decode cX11_count 12 = .ok (.aload_n 0, 1) := by decide +kernel
theorem dX11_count_13 : decode cX11_count 13 = .ok (.iload_n 1, 1) := by decide +kernel
theorem dX11_count_14 : decode cX11_count 14 = .ok (.invokevirtual 272, 3) := by decide +kernel
theorem dX11_count_17 : decode cX11_count 17 = .ok (.goto 4, 3) := by decide +kernel
theorem dX11_count_20 : decode cX11_count 20 = .ok (.iconst (-1), 1) := by decide +kernel
theorem dX11_count_21 : decode cX11_count 21 = .ok (.ireturn, 1) := by decide +kernel
theorem dX11_finding_0 : decode cX11_finding 0 = .ok (.aload_n 0, 1) := by decide +kernel
theorem dX11_finding_1 : decode cX11_finding 1 = .ok (.getfield 67, 3) := by decide +kernel
theorem dX11_finding_4 : decode cX11_finding 4 = .ok (.ireturn, 1) := by decide +kernel
theorem dX11_findings_0 : decode cX11_findings 0 = .ok (.iload_n 1, 1) := by decide +kernel
theorem dX11_findings_1 : decode cX11_findings 1 = .ok (.i2l, 1) := by decide +kernel
theorem dX11_findings_2 : decode cX11_findings 2 = .ok (.lconst 1, 1) := by decide +kernel
theorem dX11_findings_3 : decode cX11_findings 3 = .ok (.ldc2_w 74, 3) := by decide +kernel
theorem dX11_findings_6 : decode cX11_findings 6 = .ok (.invokestatic 76, 3) := by decide +kernel
theorem dX11_findings_9 : decode cX11_findings 9 = .ok (.ifCond .eq 12, 3) := by decide +kernel
theorem dX11_findings_12 : decode cX11_findings 12 = .ok (.aload_n 0, 1) := by decide +kernel
theorem dX11_findings_13 : decode cX11_findings 13 = .ok (.getfield 54, 3) := by decide +kernel
theorem dX11_findings_16 : decode cX11_findings 16 = .ok (.iload_n 1, 1) := by decide +kernel
theorem dX11_findings_17 : decode cX11_findings 17 = .ok (.iaload, 1) := by decide +kernel
theorem dX11_findings_18 : decode cX11_findings 18 = .ok (.goto 4, 3) := by decide +kernel
theorem dX11_findings_21 : decode cX11_findings 21 = .ok (.iconst (-1), 1) := by decide +kernel
theorem dX11_findings_22 : decode cX11_findings 22 = .ok (.ireturn, 1) := by decide +kernel
theorem dX11_digest_0 : decode cX11_digest 0 = .ok (.ldc2_w 275, 3) := by decide +kernel
theorem dX11_digest_3 : decode cX11_digest 3 = .ok (.lstore_n 1, 1) := by decide +kernel
theorem dX11_digest_4 : decode cX11_digest 4 = .ok (.iconst 0, 1) := by decide +kernel
theorem dX11_digest_5 : decode cX11_digest 5 = .ok (.istore_n 3, 1) := by decide +kernel
theorem dX11_digest_6 : decode cX11_digest 6 = .ok (.iload_n 3, 1) := by decide +kernel
theorem dX11_digest_7 : decode cX11_digest 7 = .ok (.bipush 9, 2) := by decide +kernel
theorem dX11_digest_9 : decode cX11_digest 9 = .ok (.if_icmp .ge 22, 3) := by decide +kernel
theorem dX11_digest_12 : decode cX11_digest 12 = .ok (.ldc2_w 277, 3) := by decide +kernel
theorem dX11_digest_15 : decode cX11_digest 15 = .ok (.lload_n 1, 1) := by decide +kernel
theorem dX11_digest_16 : decode cX11_digest 16 = .ok (.lmul, 1) := by decide +kernel
theorem dX11_digest_17 : decode cX11_digest 17 = .ok (.aload_n 0, 1) := by decide +kernel
theorem dX11_digest_18 : decode cX11_digest 18 = .ok (.iload_n 3, 1) := by decide +kernel
theorem dX11_digest_19 : decode cX11_digest 19 = .ok (.invokevirtual 272, 3) := by decide +kernel
theorem dX11_digest_22 : decode cX11_digest 22 = .ok (.i2l, 1) := by decide +kernel
theorem dX11_digest_23 : decode cX11_digest 23 = .ok (.ladd, 1) := by decide +kernel
theorem dX11_digest_24 : decode cX11_digest 24 = .ok (.lstore_n 1, 1) := by decide +kernel
theorem dX11_digest_25 : decode cX11_digest 25 = .ok (.iinc 3 1, 3) := by decide +kernel
theorem dX11_digest_28 : decode cX11_digest 28 = .ok (.goto (-22), 3) := by decide +kernel
theorem dX11_digest_31 : decode cX11_digest 31 = .ok (.ldc2_w 277, 3) := by decide +kernel
theorem dX11_digest_34 : decode cX11_digest 34 = .ok (.lload_n 1, 1) := by decide +kernel
theorem dX11_digest_35 : decode cX11_digest 35 = .ok (.lmul, 1) := by decide +kernel
theorem dX11_digest_36 : decode cX11_digest 36 = .ok (.aload_n 0, 1) := by decide +kernel
theorem dX11_digest_37 : decode cX11_digest 37 = .ok (.getfield 176, 3) := by decide +kernel
theorem dX11_digest_40 : decode cX11_digest 40 = .ok (.i2l, 1) := by decide +kernel
theorem dX11_digest_41 : decode cX11_digest 41 = .ok (.ladd, 1) := by decide +kernel
theorem dX11_digest_42 : decode cX11_digest 42 = .ok (.lstore_n 1, 1) := by decide +kernel
theorem dX11_digest_43 : decode cX11_digest 43 = .ok (.iconst 0, 1) := by decide +kernel
theorem dX11_digest_44 : decode cX11_digest 44 = .ok (.istore_n 3, 1) := by decide +kernel
theorem dX11_digest_45 : decode cX11_digest 45 = .ok (.iload_n 3, 1) := by decide +kernel
theorem dX11_digest_46 : decode cX11_digest 46 = .ok (.aload_n 0, 1) := by decide +kernel
theorem dX11_digest_47 : decode cX11_digest 47 = .ok (.getfield 119, 3) := by decide +kernel
theorem dX11_digest_50 : decode cX11_digest 50 = .ok (.if_icmp .ge 39, 3) := by decide +kernel
theorem dX11_digest_53 : decode cX11_digest 53 = .ok (.iconst 0, 1) := by decide +kernel
theorem dX11_digest_54 : decode cX11_digest 54 = .ok (.istore 4, 2) := by decide +kernel
theorem dX11_digest_56 : decode cX11_digest 56 = .ok (.iload 4, 2) := by decide +kernel
theorem dX11_digest_58 : decode cX11_digest 58 = .ok (.iconst 3, 1) := by decide +kernel
theorem dX11_digest_59 : decode cX11_digest 59 = .ok (.if_icmp .ge 24, 3) := by decide +kernel
theorem dX11_digest_62 : decode cX11_digest 62 = .ok (.ldc2_w 277, 3) := by decide +kernel
theorem dX11_digest_65 : decode cX11_digest 65 = .ok (.lload_n 1, 1) := by decide +kernel
theorem dX11_digest_66 : decode cX11_digest 66 = .ok (.lmul, 1) := by decide +kernel
theorem dX11_digest_67 : decode cX11_digest 67 = .ok (.aload_n 0, 1) := by decide +kernel
theorem dX11_digest_68 : decode cX11_digest 68 = .ok (.iload_n 3, 1) := by decide +kernel
theorem dX11_digest_69 : decode cX11_digest 69 = .ok (.iload 4, 2) := by decide +kernel
theorem dX11_digest_71 : decode cX11_digest 71 = .ok (.invokevirtual 154, 3) := by decide +kernel
theorem dX11_digest_74 : decode cX11_digest 74 = .ok (.i2l, 1) := by decide +kernel
theorem dX11_digest_75 : decode cX11_digest 75 = .ok (.ladd, 1) := by decide +kernel
theorem dX11_digest_76 : decode cX11_digest 76 = .ok (.lstore_n 1, 1) := by decide +kernel
theorem dX11_digest_77 : decode cX11_digest 77 = .ok (.iinc 4 1, 3) := by decide +kernel
theorem dX11_digest_80 : decode cX11_digest 80 = .ok (.goto (-24), 3) := by decide +kernel
theorem dX11_digest_83 : decode cX11_digest 83 = .ok (.iinc 3 1, 3) := by decide +kernel
theorem dX11_digest_86 : decode cX11_digest 86 = .ok (.goto (-41), 3) := by decide +kernel
theorem dX11_digest_89 : decode cX11_digest 89 = .ok (.iconst 0, 1) := by decide +kernel
theorem dX11_digest_90 : decode cX11_digest 90 = .ok (.istore_n 3, 1) := by decide +kernel
theorem dX11_digest_91 : decode cX11_digest 91 = .ok (.iload_n 3, 1) := by decide +kernel
theorem dX11_digest_92 : decode cX11_digest 92 = .ok (.aload_n 0, 1) := by decide +kernel
theorem dX11_digest_93 : decode cX11_digest 93 = .ok (.getfield 116, 3) := by decide +kernel
theorem dX11_digest_96 : decode cX11_digest 96 = .ok (.if_icmp .ge 27, 3) := by decide +kernel
theorem dX11_digest_99 : decode cX11_digest 99 = .ok (.ldc2_w 277, 3) := by decide +kernel
theorem dX11_digest_102 : decode cX11_digest 102 = .ok (.lload_n 1, 1) := by decide +kernel
theorem dX11_digest_103 : decode cX11_digest 103 = .ok (.lmul, 1) := by decide +kernel
theorem dX11_digest_104 : decode cX11_digest 104 = .ok (.aload_n 0, 1) := by decide +kernel
theorem dX11_digest_105 : decode cX11_digest 105 = .ok (.getfield 44, 3) := by decide +kernel
theorem dX11_digest_108 : decode cX11_digest 108 = .ok (.iload_n 3, 1) := by decide +kernel
theorem dX11_digest_109 : decode cX11_digest 109 = .ok (.iaload, 1) := by decide +kernel
theorem dX11_digest_110 : decode cX11_digest 110 = .ok (.i2l, 1) := by decide +kernel
theorem dX11_digest_111 : decode cX11_digest 111 = .ok (.ladd, 1) := by decide +kernel
theorem dX11_digest_112 : decode cX11_digest 112 = .ok (.ldc2_w 152, 3) := by decide +kernel
theorem dX11_digest_115 : decode cX11_digest 115 = .ok (.ladd, 1) := by decide +kernel
theorem dX11_digest_116 : decode cX11_digest 116 = .ok (.lstore_n 1, 1) := by decide +kernel
theorem dX11_digest_117 : decode cX11_digest 117 = .ok (.iinc 3 1, 3) := by decide +kernel
theorem dX11_digest_120 : decode cX11_digest 120 = .ok (.goto (-29), 3) := by decide +kernel
theorem dX11_digest_123 : decode cX11_digest 123 = .ok (.iconst 0, 1) := by decide +kernel
theorem dX11_digest_124 : decode cX11_digest 124 = .ok (.istore_n 3, 1) := by decide +kernel
theorem dX11_digest_125 : decode cX11_digest 125 = .ok (.iload_n 3, 1) := by decide +kernel
theorem dX11_digest_126 : decode cX11_digest 126 = .ok (.aload_n 0, 1) := by decide +kernel
theorem dX11_digest_127 : decode cX11_digest 127 = .ok (.getfield 182, 3) := by decide +kernel
theorem dX11_digest_130 : decode cX11_digest 130 = .ok (.if_icmp .ge 23, 3) := by decide +kernel
theorem dX11_digest_133 : decode cX11_digest 133 = .ok (.ldc2_w 277, 3) := by decide +kernel
theorem dX11_digest_136 : decode cX11_digest 136 = .ok (.lload_n 1, 1) := by decide +kernel
theorem dX11_digest_137 : decode cX11_digest 137 = .ok (.lmul, 1) := by decide +kernel
theorem dX11_digest_138 : decode cX11_digest 138 = .ok (.aload_n 0, 1) := by decide +kernel
theorem dX11_digest_139 : decode cX11_digest 139 = .ok (.getfield 47, 3) := by decide +kernel
theorem dX11_digest_142 : decode cX11_digest 142 = .ok (.iload_n 3, 1) := by decide +kernel
theorem dX11_digest_143 : decode cX11_digest 143 = .ok (.iaload, 1) := by decide +kernel
theorem dX11_digest_144 : decode cX11_digest 144 = .ok (.i2l, 1) := by decide +kernel
theorem dX11_digest_145 : decode cX11_digest 145 = .ok (.ladd, 1) := by decide +kernel
theorem dX11_digest_146 : decode cX11_digest 146 = .ok (.lstore_n 1, 1) := by decide +kernel
theorem dX11_digest_147 : decode cX11_digest 147 = .ok (.iinc 3 1, 3) := by decide +kernel
theorem dX11_digest_150 : decode cX11_digest 150 = .ok (.goto (-25), 3) := by decide +kernel
theorem dX11_digest_153 : decode cX11_digest 153 = .ok (.iconst 1, 1) := by decide +kernel
theorem dX11_digest_154 : decode cX11_digest 154 = .ok (.istore_n 3, 1) := by decide +kernel
theorem dX11_digest_155 : decode cX11_digest 155 = .ok (.iload_n 3, 1) := by decide +kernel
theorem dX11_digest_156 : decode cX11_digest 156 = .ok (.iconst 4, 1) := by decide +kernel
theorem dX11_digest_157 : decode cX11_digest 157 = .ok (.if_icmp .ge 23, 3) := by decide +kernel
theorem dX11_digest_160 : decode cX11_digest 160 = .ok (.ldc2_w 277, 3) := by decide +kernel
theorem dX11_digest_163 : decode cX11_digest 163 = .ok (.lload_n 1, 1) := by decide +kernel
theorem dX11_digest_164 : decode cX11_digest 164 = .ok (.lmul, 1) := by decide +kernel
theorem dX11_digest_165 : decode cX11_digest 165 = .ok (.aload_n 0, 1) := by decide +kernel
theorem dX11_digest_166 : decode cX11_digest 166 = .ok (.getfield 38, 3) := by decide +kernel
theorem dX11_digest_169 : decode cX11_digest 169 = .ok (.iload_n 3, 1) := by decide +kernel
theorem dX11_digest_170 : decode cX11_digest 170 = .ok (.iaload, 1) := by decide +kernel
theorem dX11_digest_171 : decode cX11_digest 171 = .ok (.i2l, 1) := by decide +kernel
theorem dX11_digest_172 : decode cX11_digest 172 = .ok (.ladd, 1) := by decide +kernel
theorem dX11_digest_173 : decode cX11_digest 173 = .ok (.lstore_n 1, 1) := by decide +kernel
theorem dX11_digest_174 : decode cX11_digest 174 = .ok (.iinc 3 1, 3) := by decide +kernel
theorem dX11_digest_177 : decode cX11_digest 177 = .ok (.goto (-22), 3) := by decide +kernel
theorem dX11_digest_180 : decode cX11_digest 180 = .ok (.iconst 0, 1) := by decide +kernel
theorem dX11_digest_181 : decode cX11_digest 181 = .ok (.istore_n 3, 1) := by decide +kernel
theorem dX11_digest_182 : decode cX11_digest 182 = .ok (.iload_n 3, 1) := by decide +kernel
theorem dX11_digest_183 : decode cX11_digest 183 = .ok (.bipush 6, 2) := by decide +kernel
theorem dX11_digest_185 : decode cX11_digest 185 = .ok (.if_icmp .ge 63, 3) := by decide +kernel
theorem dX11_digest_188 : decode cX11_digest 188 = .ok (.ldc2_w 277, 3) := by decide +kernel
theorem dX11_digest_191 : decode cX11_digest 191 = .ok (.lload_n 1, 1) := by decide +kernel
theorem dX11_digest_192 : decode cX11_digest 192 = .ok (.lmul, 1) := by decide +kernel
theorem dX11_digest_193 : decode cX11_digest 193 = .ok (.aload_n 0, 1) := by decide +kernel
theorem dX11_digest_194 : decode cX11_digest 194 = .ok (.getfield 7, 3) := by decide +kernel
theorem dX11_digest_197 : decode cX11_digest 197 = .ok (.iload_n 3, 1) := by decide +kernel
theorem dX11_digest_198 : decode cX11_digest 198 = .ok (.iaload, 1) := by decide +kernel
theorem dX11_digest_199 : decode cX11_digest 199 = .ok (.i2l, 1) := by decide +kernel
theorem dX11_digest_200 : decode cX11_digest 200 = .ok (.ladd, 1) := by decide +kernel
theorem dX11_digest_201 : decode cX11_digest 201 = .ok (.lstore_n 1, 1) := by decide +kernel
theorem dX11_digest_202 : decode cX11_digest 202 = .ok (.iconst 0, 1) := by decide +kernel
theorem dX11_digest_203 : decode cX11_digest 203 = .ok (.istore 4, 2) := by decide +kernel
theorem dX11_digest_205 : decode cX11_digest 205 = .ok (.iload 4, 2) := by decide +kernel
theorem dX11_digest_207 : decode cX11_digest 207 = .ok (.aload_n 0, 1) := by decide +kernel
theorem dX11_digest_208 : decode cX11_digest 208 = .ok (.getfield 7, 3) := by decide +kernel
theorem dX11_digest_211 : decode cX11_digest 211 = .ok (.iload_n 3, 1) := by decide +kernel
theorem dX11_digest_212 : decode cX11_digest 212 = .ok (.iaload, 1) := by decide +kernel
theorem dX11_digest_213 : decode cX11_digest 213 = .ok (.if_icmp .ge 29, 3) := by decide +kernel
theorem dX11_digest_216 : decode cX11_digest 216 = .ok (.ldc2_w 277, 3) := by decide +kernel
theorem dX11_digest_219 : decode cX11_digest 219 = .ok (.lload_n 1, 1) := by decide +kernel
theorem dX11_digest_220 : decode cX11_digest 220 = .ok (.lmul, 1) := by decide +kernel
theorem dX11_digest_221 : decode cX11_digest 221 = .ok (.aload_n 0, 1) := by decide +kernel
theorem dX11_digest_222 : decode cX11_digest 222 = .ok (.getfield 13, 3) := by decide +kernel
theorem dX11_digest_225 : decode cX11_digest 225 = .ok (.bipush 40, 2) := by decide +kernel
theorem dX11_digest_227 : decode cX11_digest 227 = .ok (.iload_n 3, 1) := by decide +kernel
theorem dX11_digest_228 : decode cX11_digest 228 = .ok (.imul, 1) := by decide +kernel
theorem dX11_digest_229 : decode cX11_digest 229 = .ok (.iload 4, 2) := by decide +kernel
theorem dX11_digest_231 : decode cX11_digest 231 = .ok (.iadd, 1) := by decide +kernel
theorem dX11_digest_232 : decode cX11_digest 232 = .ok (.iaload, 1) := by decide +kernel
theorem dX11_digest_233 : decode cX11_digest 233 = .ok (.i2l, 1) := by decide +kernel
theorem dX11_digest_234 : decode cX11_digest 234 = .ok (.ladd, 1) := by decide +kernel
theorem dX11_digest_235 : decode cX11_digest 235 = .ok (.lstore_n 1, 1) := by decide +kernel
theorem dX11_digest_236 : decode cX11_digest 236 = .ok (.iinc 4 1, 3) := by decide +kernel
theorem dX11_digest_239 : decode cX11_digest 239 = .ok (.goto (-34), 3) := by decide +kernel
theorem dX11_digest_242 : decode cX11_digest 242 = .ok (.iinc 3 1, 3) := by decide +kernel
theorem dX11_digest_245 : decode cX11_digest 245 = .ok (.goto (-63), 3) := by decide +kernel
theorem dX11_digest_248 : decode cX11_digest 248 = .ok (.iconst 0, 1) := by decide +kernel
theorem dX11_digest_249 : decode cX11_digest 249 = .ok (.istore_n 3, 1) := by decide +kernel
theorem dX11_digest_250 : decode cX11_digest 250 = .ok (.iload_n 3, 1) := by decide +kernel
theorem dX11_digest_251 : decode cX11_digest 251 = .ok (.iconst 4, 1) := by decide +kernel
theorem dX11_digest_252 : decode cX11_digest 252 = .ok (.if_icmp .ge 63, 3) := by decide +kernel
theorem dX11_digest_255 : decode cX11_digest 255 = .ok (.ldc2_w 277, 3) := by decide +kernel
theorem dX11_digest_258 : decode cX11_digest 258 = .ok (.lload_n 1, 1) := by decide +kernel
theorem dX11_digest_259 : decode cX11_digest 259 = .ok (.lmul, 1) := by decide +kernel
theorem dX11_digest_260 : decode cX11_digest 260 = .ok (.aload_n 0, 1) := by decide +kernel
theorem dX11_digest_261 : decode cX11_digest 261 = .ok (.getfield 16, 3) := by decide +kernel
theorem dX11_digest_264 : decode cX11_digest 264 = .ok (.iload_n 3, 1) := by decide +kernel
theorem dX11_digest_265 : decode cX11_digest 265 = .ok (.iaload, 1) := by decide +kernel
theorem dX11_digest_266 : decode cX11_digest 266 = .ok (.i2l, 1) := by decide +kernel
theorem dX11_digest_267 : decode cX11_digest 267 = .ok (.ladd, 1) := by decide +kernel
theorem dX11_digest_268 : decode cX11_digest 268 = .ok (.lstore_n 1, 1) := by decide +kernel
theorem dX11_digest_269 : decode cX11_digest 269 = .ok (.iconst 0, 1) := by decide +kernel
theorem dX11_digest_270 : decode cX11_digest 270 = .ok (.istore 4, 2) := by decide +kernel
theorem dX11_digest_272 : decode cX11_digest 272 = .ok (.iload 4, 2) := by decide +kernel
theorem dX11_digest_274 : decode cX11_digest 274 = .ok (.aload_n 0, 1) := by decide +kernel
theorem dX11_digest_275 : decode cX11_digest 275 = .ok (.getfield 16, 3) := by decide +kernel
theorem dX11_digest_278 : decode cX11_digest 278 = .ok (.iload_n 3, 1) := by decide +kernel
theorem dX11_digest_279 : decode cX11_digest 279 = .ok (.iaload, 1) := by decide +kernel
theorem dX11_digest_280 : decode cX11_digest 280 = .ok (.if_icmp .ge 29, 3) := by decide +kernel
theorem dX11_digest_283 : decode cX11_digest 283 = .ok (.ldc2_w 277, 3) := by decide +kernel
theorem dX11_digest_286 : decode cX11_digest 286 = .ok (.lload_n 1, 1) := by decide +kernel
theorem dX11_digest_287 : decode cX11_digest 287 = .ok (.lmul, 1) := by decide +kernel
theorem dX11_digest_288 : decode cX11_digest 288 = .ok (.aload_n 0, 1) := by decide +kernel
theorem dX11_digest_289 : decode cX11_digest 289 = .ok (.getfield 19, 3) := by decide +kernel
theorem dX11_digest_292 : decode cX11_digest 292 = .ok (.bipush 80, 2) := by decide +kernel
theorem dX11_digest_294 : decode cX11_digest 294 = .ok (.iload_n 3, 1) := by decide +kernel
theorem dX11_digest_295 : decode cX11_digest 295 = .ok (.imul, 1) := by decide +kernel
theorem dX11_digest_296 : decode cX11_digest 296 = .ok (.iload 4, 2) := by decide +kernel
theorem dX11_digest_298 : decode cX11_digest 298 = .ok (.iadd, 1) := by decide +kernel
theorem dX11_digest_299 : decode cX11_digest 299 = .ok (.baload, 1) := by decide +kernel
theorem dX11_digest_300 : decode cX11_digest 300 = .ok (.i2l, 1) := by decide +kernel
theorem dX11_digest_301 : decode cX11_digest 301 = .ok (.ladd, 1) := by decide +kernel
theorem dX11_digest_302 : decode cX11_digest 302 = .ok (.lstore_n 1, 1) := by decide +kernel
theorem dX11_digest_303 : decode cX11_digest 303 = .ok (.iinc 4 1, 3) := by decide +kernel
theorem dX11_digest_306 : decode cX11_digest 306 = .ok (.goto (-34), 3) := by decide +kernel
theorem dX11_digest_309 : decode cX11_digest 309 = .ok (.iinc 3 1, 3) := by decide +kernel
theorem dX11_digest_312 : decode cX11_digest 312 = .ok (.goto (-62), 3) := by decide +kernel
theorem dX11_digest_315 : decode cX11_digest 315 = .ok (.lload_n 1, 1) := by decide +kernel
theorem dX11_digest_316 : decode cX11_digest 316 = .ok (.lreturn, 1) := by decide +kernel
theorem dJ6_bitCount_0f7a4_0 : decode cJ6_bitCount_0f7a4 0 = .ok (.iload_n 0, 1) := by decide +kernel
theorem dJ6_bitCount_0f7a4_1 : decode cJ6_bitCount_0f7a4 1 = .ok (.iload_n 0, 1) := by decide +kernel
theorem dJ6_bitCount_0f7a4_2 : decode cJ6_bitCount_0f7a4 2 = .ok (.iconst 1, 1) := by decide +kernel
theorem dJ6_bitCount_0f7a4_3 : decode cJ6_bitCount_0f7a4 3 = .ok (.iushr, 1) := by decide +kernel
theorem dJ6_bitCount_0f7a4_4 : decode cJ6_bitCount_0f7a4 4 = .ok (.ldc_w 265, 3) := by decide +kernel
theorem dJ6_bitCount_0f7a4_7 : decode cJ6_bitCount_0f7a4 7 = .ok (.iand, 1) := by decide +kernel
theorem dJ6_bitCount_0f7a4_8 : decode cJ6_bitCount_0f7a4 8 = .ok (.isub, 1) := by decide +kernel
theorem dJ6_bitCount_0f7a4_9 : decode cJ6_bitCount_0f7a4 9 = .ok (.istore_n 0, 1) := by decide +kernel
theorem dJ6_bitCount_0f7a4_10 : decode cJ6_bitCount_0f7a4 10 = .ok (.iload_n 0, 1) := by decide +kernel
theorem dJ6_bitCount_0f7a4_11 : decode cJ6_bitCount_0f7a4 11 = .ok (.ldc_w 266, 3) := by decide +kernel
theorem dJ6_bitCount_0f7a4_14 : decode cJ6_bitCount_0f7a4 14 = .ok (.iand, 1) := by decide +kernel
theorem dJ6_bitCount_0f7a4_15 : decode cJ6_bitCount_0f7a4 15 = .ok (.iload_n 0, 1) := by decide +kernel
theorem dJ6_bitCount_0f7a4_16 : decode cJ6_bitCount_0f7a4 16 = .ok (.iconst 2, 1) := by decide +kernel
theorem dJ6_bitCount_0f7a4_17 : decode cJ6_bitCount_0f7a4 17 = .ok (.iushr, 1) := by decide +kernel
theorem dJ6_bitCount_0f7a4_18 : decode cJ6_bitCount_0f7a4 18 = .ok (.ldc_w 266, 3) := by decide +kernel
theorem dJ6_bitCount_0f7a4_21 : decode cJ6_bitCount_0f7a4 21 = .ok (.iand, 1) := by decide +kernel
theorem dJ6_bitCount_0f7a4_22 : decode cJ6_bitCount_0f7a4 22 = .ok (.iadd, 1) := by decide +kernel
theorem dJ6_bitCount_0f7a4_23 : decode cJ6_bitCount_0f7a4 23 = .ok (.istore_n 0, 1) := by decide +kernel
theorem dJ6_bitCount_0f7a4_24 : decode cJ6_bitCount_0f7a4 24 = .ok (.iload_n 0, 1) := by decide +kernel
theorem dJ6_bitCount_0f7a4_25 : decode cJ6_bitCount_0f7a4 25 = .ok (.iload_n 0, 1) := by decide +kernel
theorem dJ6_bitCount_0f7a4_26 : decode cJ6_bitCount_0f7a4 26 = .ok (.iconst 4, 1) := by decide +kernel
theorem dJ6_bitCount_0f7a4_27 : decode cJ6_bitCount_0f7a4 27 = .ok (.iushr, 1) := by decide +kernel
theorem dJ6_bitCount_0f7a4_28 : decode cJ6_bitCount_0f7a4 28 = .ok (.iadd, 1) := by decide +kernel
theorem dJ6_bitCount_0f7a4_29 : decode cJ6_bitCount_0f7a4 29 = .ok (.ldc_w 267, 3) := by decide +kernel
theorem dJ6_bitCount_0f7a4_32 : decode cJ6_bitCount_0f7a4 32 = .ok (.iand, 1) := by decide +kernel
theorem dJ6_bitCount_0f7a4_33 : decode cJ6_bitCount_0f7a4 33 = .ok (.istore_n 0, 1) := by decide +kernel
theorem dJ6_bitCount_0f7a4_34 : decode cJ6_bitCount_0f7a4 34 = .ok (.iload_n 0, 1) := by decide +kernel
theorem dJ6_bitCount_0f7a4_35 : decode cJ6_bitCount_0f7a4 35 = .ok (.iload_n 0, 1) := by decide +kernel
theorem dJ6_bitCount_0f7a4_36 : decode cJ6_bitCount_0f7a4 36 = .ok (.bipush 8, 2) := by decide +kernel
theorem dJ6_bitCount_0f7a4_38 : decode cJ6_bitCount_0f7a4 38 = .ok (.iushr, 1) := by decide +kernel
theorem dJ6_bitCount_0f7a4_39 : decode cJ6_bitCount_0f7a4 39 = .ok (.iadd, 1) := by decide +kernel
theorem dJ6_bitCount_0f7a4_40 : decode cJ6_bitCount_0f7a4 40 = .ok (.istore_n 0, 1) := by decide +kernel
theorem dJ6_bitCount_0f7a4_41 : decode cJ6_bitCount_0f7a4 41 = .ok (.iload_n 0, 1) := by decide +kernel
theorem dJ6_bitCount_0f7a4_42 : decode cJ6_bitCount_0f7a4 42 = .ok (.iload_n 0, 1) := by decide +kernel
theorem dJ6_bitCount_0f7a4_43 : decode cJ6_bitCount_0f7a4 43 = .ok (.bipush 16, 2) := by decide +kernel
theorem dJ6_bitCount_0f7a4_45 : decode cJ6_bitCount_0f7a4 45 = .ok (.iushr, 1) := by decide +kernel
theorem dJ6_bitCount_0f7a4_46 : decode cJ6_bitCount_0f7a4 46 = .ok (.iadd, 1) := by decide +kernel
theorem dJ6_bitCount_0f7a4_47 : decode cJ6_bitCount_0f7a4 47 = .ok (.istore_n 0, 1) := by decide +kernel
theorem dJ6_bitCount_0f7a4_48 : decode cJ6_bitCount_0f7a4 48 = .ok (.iload_n 0, 1) := by decide +kernel
theorem dJ6_bitCount_0f7a4_49 : decode cJ6_bitCount_0f7a4 49 = .ok (.bipush 63, 2) := by decide +kernel
theorem dJ6_bitCount_0f7a4_51 : decode cJ6_bitCount_0f7a4 51 = .ok (.iand, 1) := by decide +kernel
theorem dJ6_bitCount_0f7a4_52 : decode cJ6_bitCount_0f7a4 52 = .ok (.ireturn, 1) := by decide +kernel
theorem dJ13_bitCount_95d88_0 : decode cJ13_bitCount_95d88 0 = .ok (.lload_n 0, 1) := by decide +kernel
theorem dJ13_bitCount_95d88_1 : decode cJ13_bitCount_95d88 1 = .ok (.lload_n 0, 1) := by decide +kernel
theorem dJ13_bitCount_95d88_2 : decode cJ13_bitCount_95d88 2 = .ok (.iconst 1, 1) := by decide +kernel
theorem dJ13_bitCount_95d88_3 : decode cJ13_bitCount_95d88 3 = .ok (.lushr, 1) := by decide +kernel
theorem dJ13_bitCount_95d88_4 : decode cJ13_bitCount_95d88 4 = .ok (.ldc2_w 314, 3) := by decide +kernel
theorem dJ13_bitCount_95d88_7 : decode cJ13_bitCount_95d88 7 = .ok (.land, 1) := by decide +kernel
theorem dJ13_bitCount_95d88_8 : decode cJ13_bitCount_95d88 8 = .ok (.lsub, 1) := by decide +kernel
theorem dJ13_bitCount_95d88_9 : decode cJ13_bitCount_95d88 9 = .ok (.lstore_n 0, 1) := by decide +kernel
theorem dJ13_bitCount_95d88_10 : decode cJ13_bitCount_95d88 10 = .ok (.lload_n 0, 1) := by decide +kernel
theorem dJ13_bitCount_95d88_11 : decode cJ13_bitCount_95d88 11 = .ok (.ldc2_w 316, 3) := by decide +kernel
theorem dJ13_bitCount_95d88_14 : decode cJ13_bitCount_95d88 14 = .ok (.land, 1) := by decide +kernel
theorem dJ13_bitCount_95d88_15 : decode cJ13_bitCount_95d88 15 = .ok (.lload_n 0, 1) := by decide +kernel
theorem dJ13_bitCount_95d88_16 : decode cJ13_bitCount_95d88 16 = .ok (.iconst 2, 1) := by decide +kernel
theorem dJ13_bitCount_95d88_17 : decode cJ13_bitCount_95d88 17 = .ok (.lushr, 1) := by decide +kernel
theorem dJ13_bitCount_95d88_18 : decode cJ13_bitCount_95d88 18 = .ok (.ldc2_w 316, 3) := by decide +kernel
theorem dJ13_bitCount_95d88_21 : decode cJ13_bitCount_95d88 21 = .ok (.land, 1) := by decide +kernel
theorem dJ13_bitCount_95d88_22 : decode cJ13_bitCount_95d88 22 = .ok (.ladd, 1) := by decide +kernel
theorem dJ13_bitCount_95d88_23 : decode cJ13_bitCount_95d88 23 = .ok (.lstore_n 0, 1) := by decide +kernel
theorem dJ13_bitCount_95d88_24 : decode cJ13_bitCount_95d88 24 = .ok (.lload_n 0, 1) := by decide +kernel
theorem dJ13_bitCount_95d88_25 : decode cJ13_bitCount_95d88 25 = .ok (.lload_n 0, 1) := by decide +kernel
theorem dJ13_bitCount_95d88_26 : decode cJ13_bitCount_95d88 26 = .ok (.iconst 4, 1) := by decide +kernel
theorem dJ13_bitCount_95d88_27 : decode cJ13_bitCount_95d88 27 = .ok (.lushr, 1) := by decide +kernel
theorem dJ13_bitCount_95d88_28 : decode cJ13_bitCount_95d88 28 = .ok (.ladd, 1) := by decide +kernel
theorem dJ13_bitCount_95d88_29 : decode cJ13_bitCount_95d88 29 = .ok (.ldc2_w 318, 3) := by decide +kernel
theorem dJ13_bitCount_95d88_32 : decode cJ13_bitCount_95d88 32 = .ok (.land, 1) := by decide +kernel
theorem dJ13_bitCount_95d88_33 : decode cJ13_bitCount_95d88 33 = .ok (.lstore_n 0, 1) := by decide +kernel
theorem dJ13_bitCount_95d88_34 : decode cJ13_bitCount_95d88 34 = .ok (.lload_n 0, 1) := by decide +kernel
theorem dJ13_bitCount_95d88_35 : decode cJ13_bitCount_95d88 35 = .ok (.lload_n 0, 1) := by decide +kernel
theorem dJ13_bitCount_95d88_36 : decode cJ13_bitCount_95d88 36 = .ok (.bipush 8, 2) := by decide +kernel
theorem dJ13_bitCount_95d88_38 : decode cJ13_bitCount_95d88 38 = .ok (.lushr, 1) := by decide +kernel
theorem dJ13_bitCount_95d88_39 : decode cJ13_bitCount_95d88 39 = .ok (.ladd, 1) := by decide +kernel
theorem dJ13_bitCount_95d88_40 : decode cJ13_bitCount_95d88 40 = .ok (.lstore_n 0, 1) := by decide +kernel
theorem dJ13_bitCount_95d88_41 : decode cJ13_bitCount_95d88 41 = .ok (.lload_n 0, 1) := by decide +kernel
theorem dJ13_bitCount_95d88_42 : decode cJ13_bitCount_95d88 42 = .ok (.lload_n 0, 1) := by decide +kernel
theorem dJ13_bitCount_95d88_43 : decode cJ13_bitCount_95d88 43 = .ok (.bipush 16, 2) := by decide +kernel
theorem dJ13_bitCount_95d88_45 : decode cJ13_bitCount_95d88 45 = .ok (.lushr, 1) := by decide +kernel
theorem dJ13_bitCount_95d88_46 : decode cJ13_bitCount_95d88 46 = .ok (.ladd, 1) := by decide +kernel
theorem dJ13_bitCount_95d88_47 : decode cJ13_bitCount_95d88 47 = .ok (.lstore_n 0, 1) := by decide +kernel
theorem dJ13_bitCount_95d88_48 : decode cJ13_bitCount_95d88 48 = .ok (.lload_n 0, 1) := by decide +kernel
theorem dJ13_bitCount_95d88_49 : decode cJ13_bitCount_95d88 49 = .ok (.lload_n 0, 1) := by decide +kernel
theorem dJ13_bitCount_95d88_50 : decode cJ13_bitCount_95d88 50 = .ok (.bipush 32, 2) := by decide +kernel
theorem dJ13_bitCount_95d88_52 : decode cJ13_bitCount_95d88 52 = .ok (.lushr, 1) := by decide +kernel
theorem dJ13_bitCount_95d88_53 : decode cJ13_bitCount_95d88 53 = .ok (.ladd, 1) := by decide +kernel
theorem dJ13_bitCount_95d88_54 : decode cJ13_bitCount_95d88 54 = .ok (.lstore_n 0, 1) := by decide +kernel
theorem dJ13_bitCount_95d88_55 : decode cJ13_bitCount_95d88 55 = .ok (.lload_n 0, 1) := by decide +kernel
theorem dJ13_bitCount_95d88_56 : decode cJ13_bitCount_95d88 56 = .ok (.l2i, 1) := by decide +kernel
theorem dJ13_bitCount_95d88_57 : decode cJ13_bitCount_95d88 57 = .ok (.bipush 127, 2) := by decide +kernel
theorem dJ13_bitCount_95d88_59 : decode cJ13_bitCount_95d88 59 = .ok (.iand, 1) := by decide +kernel
theorem dJ13_bitCount_95d88_60 : decode cJ13_bitCount_95d88 60 = .ok (.ireturn, 1) := by decide +kernel
theorem dJ9_abs_0f7a4_0 : decode cJ9_abs_0f7a4 0 = .ok (.iload_n 0, 1) := by decide +kernel
theorem dJ9_abs_0f7a4_1 : decode cJ9_abs_0f7a4 1 = .ok (.ifCond .ge 8, 3) := by decide +kernel
theorem dJ9_abs_0f7a4_4 : decode cJ9_abs_0f7a4 4 = .ok (.iload_n 0, 1) := by decide +kernel
theorem dJ9_abs_0f7a4_5 : decode cJ9_abs_0f7a4 5 = .ok (.ineg, 1) := by decide +kernel
theorem dJ9_abs_0f7a4_6 : decode cJ9_abs_0f7a4 6 = .ok (.goto 4, 3) := by decide +kernel
theorem dJ9_abs_0f7a4_9 : decode cJ9_abs_0f7a4 9 = .ok (.iload_n 0, 1) := by decide +kernel
theorem dJ9_abs_0f7a4_10 : decode cJ9_abs_0f7a4 10 = .ok (.ireturn, 1) := by decide +kernel
theorem dJ9_max_7cf53_0 : decode cJ9_max_7cf53 0 = .ok (.iload_n 0, 1) := by decide +kernel
theorem dJ9_max_7cf53_1 : decode cJ9_max_7cf53 1 = .ok (.iload_n 1, 1) := by decide +kernel
theorem dJ9_max_7cf53_2 : decode cJ9_max_7cf53 2 = .ok (.if_icmp .lt 7, 3) := by decide +kernel
theorem dJ9_max_7cf53_5 : decode cJ9_max_7cf53 5 = .ok (.iload_n 0, 1) := by decide +kernel
theorem dJ9_max_7cf53_6 : decode cJ9_max_7cf53 6 = .ok (.goto 4, 3) := by decide +kernel
theorem dJ9_max_7cf53_9 : decode cJ9_max_7cf53 9 = .ok (.iload_n 1, 1) := by decide +kernel
theorem dJ9_max_7cf53_10 : decode cJ9_max_7cf53 10 = .ok (.ireturn, 1) := by decide +kernel
theorem dJ9_min_7cf53_0 : decode cJ9_min_7cf53 0 = .ok (.iload_n 0, 1) := by decide +kernel
theorem dJ9_min_7cf53_1 : decode cJ9_min_7cf53 1 = .ok (.iload_n 1, 1) := by decide +kernel
theorem dJ9_min_7cf53_2 : decode cJ9_min_7cf53 2 = .ok (.if_icmp .gt 7, 3) := by decide +kernel
theorem dJ9_min_7cf53_5 : decode cJ9_min_7cf53 5 = .ok (.iload_n 0, 1) := by decide +kernel
theorem dJ9_min_7cf53_6 : decode cJ9_min_7cf53 6 = .ok (.goto 4, 3) := by decide +kernel
theorem dJ9_min_7cf53_9 : decode cJ9_min_7cf53 9 = .ok (.iload_n 1, 1) := by decide +kernel
theorem dJ9_min_7cf53_10 : decode cJ9_min_7cf53 10 = .ok (.ireturn, 1) := by decide +kernel
theorem dJ7_fill_53178_0 : decode cJ7_fill_53178 0 = .ok (.iconst 0, 1) := by decide +kernel
theorem dJ7_fill_53178_1 : decode cJ7_fill_53178 1 = .ok (.istore_n 2, 1) := by decide +kernel
theorem dJ7_fill_53178_2 : decode cJ7_fill_53178 2 = .ok (.aload_n 0, 1) := by decide +kernel
theorem dJ7_fill_53178_3 : decode cJ7_fill_53178 3 = .ok (.arraylength, 1) := by decide +kernel
theorem dJ7_fill_53178_4 : decode cJ7_fill_53178 4 = .ok (.istore_n 3, 1) := by decide +kernel
theorem dJ7_fill_53178_5 : decode cJ7_fill_53178 5 = .ok (.iload_n 2, 1) := by decide +kernel
theorem dJ7_fill_53178_6 : decode cJ7_fill_53178 6 = .ok (.iload_n 3, 1) := by decide +kernel
theorem dJ7_fill_53178_7 : decode cJ7_fill_53178 7 = .ok (.if_icmp .ge 13, 3) := by decide +kernel
theorem dJ7_fill_53178_10 : decode cJ7_fill_53178 10 = .ok (.aload_n 0, 1) := by decide +kernel
theorem dJ7_fill_53178_11 : decode cJ7_fill_53178 11 = .ok (.iload_n 2, 1) := by decide +kernel
theorem dJ7_fill_53178_12 : decode cJ7_fill_53178 12 = .ok (.iload_n 1, 1) := by decide +kernel
theorem dJ7_fill_53178_13 : decode cJ7_fill_53178 13 = .ok (.iastore, 1) := by decide +kernel
theorem dJ7_fill_53178_14 : decode cJ7_fill_53178 14 = .ok (.iinc 2 1, 3) := by decide +kernel
theorem dJ7_fill_53178_17 : decode cJ7_fill_53178 17 = .ok (.goto (-12), 3) := by decide +kernel
theorem dJ7_fill_53178_20 : decode cJ7_fill_53178 20 = .ok (.return_, 1) := by decide +kernel
theorem dJ7_fill_031fb_0 : decode cJ7_fill_031fb 0 = .ok (.iconst 0, 1) := by decide +kernel
theorem dJ7_fill_031fb_1 : decode cJ7_fill_031fb 1 = .ok (.istore_n 2, 1) := by decide +kernel
theorem dJ7_fill_031fb_2 : decode cJ7_fill_031fb 2 = .ok (.aload_n 0, 1) := by decide +kernel
theorem dJ7_fill_031fb_3 : decode cJ7_fill_031fb 3 = .ok (.arraylength, 1) := by decide +kernel
theorem dJ7_fill_031fb_4 : decode cJ7_fill_031fb 4 = .ok (.istore_n 3, 1) := by decide +kernel
theorem dJ7_fill_031fb_5 : decode cJ7_fill_031fb 5 = .ok (.iload_n 2, 1) := by decide +kernel
theorem dJ7_fill_031fb_6 : decode cJ7_fill_031fb 6 = .ok (.iload_n 3, 1) := by decide +kernel
theorem dJ7_fill_031fb_7 : decode cJ7_fill_031fb 7 = .ok (.if_icmp .ge 13, 3) := by decide +kernel
theorem dJ7_fill_031fb_10 : decode cJ7_fill_031fb 10 = .ok (.aload_n 0, 1) := by decide +kernel
theorem dJ7_fill_031fb_11 : decode cJ7_fill_031fb 11 = .ok (.iload_n 2, 1) := by decide +kernel
theorem dJ7_fill_031fb_12 : decode cJ7_fill_031fb 12 = .ok (.iload_n 1, 1) := by decide +kernel
theorem dJ7_fill_031fb_13 : decode cJ7_fill_031fb 13 = .ok (.bastore, 1) := by decide +kernel
theorem dJ7_fill_031fb_14 : decode cJ7_fill_031fb 14 = .ok (.iinc 2 1, 3) := by decide +kernel
theorem dJ7_fill_031fb_17 : decode cJ7_fill_031fb 17 = .ok (.goto (-12), 3) := by decide +kernel
theorem dJ7_fill_031fb_20 : decode cJ7_fill_031fb 20 = .ok (.return_, 1) := by decide +kernel
theorem dL_law_0 : decode cL_law 0 = .ok (.new 7, 3) := by decide +kernel
theorem dL_law_3 : decode cL_law 3 = .ok (.dup, 1) := by decide +kernel
theorem dL_law_4 : decode cL_law 4 = .ok (.invokespecial 9, 3) := by decide +kernel
theorem dL_law_7 : decode cL_law 7 = .ok (.astore_n 1, 1) := by decide +kernel
theorem dL_law_8 : decode cL_law 8 = .ok (.new 10, 3) := by decide +kernel
theorem dL_law_11 : decode cL_law 11 = .ok (.dup, 1) := by decide +kernel
theorem dL_law_12 : decode cL_law 12 = .ok (.invokespecial 12, 3) := by decide +kernel
theorem dL_law_15 : decode cL_law 15 = .ok (.astore_n 2, 1) := by decide +kernel
theorem dL_law_16 : decode cL_law 16 = .ok (.iconst 0, 1) := by decide +kernel
theorem dL_law_17 : decode cL_law 17 = .ok (.istore_n 3, 1) := by decide +kernel
theorem dL_law_18 : decode cL_law 18 = .ok (.iload_n 3, 1) := by decide +kernel
theorem dL_law_19 : decode cL_law 19 = .ok (.aload_n 0, 1) := by decide +kernel
theorem dL_law_20 : decode cL_law 20 = .ok (.arraylength, 1) := by decide +kernel
theorem dL_law_21 : decode cL_law 21 = .ok (.bipush 6, 2) := by decide +kernel
theorem dL_law_23 : decode cL_law 23 = .ok (.isub, 1) := by decide +kernel
theorem dL_law_24 : decode cL_law 24 = .ok (.if_icmp .gt 1346, 3) := by decide +kernel
theorem dL_law_27 : decode cL_law 27 = .ok (.aload_n 0, 1) := by decide +kernel
theorem dL_law_28 : decode cL_law 28 = .ok (.iload_n 3, 1) := by decide +kernel
theorem dL_law_29 : decode cL_law 29 = .ok (.iaload, 1) := by decide +kernel
theorem dL_law_30 : decode cL_law 30 = .ok (.bipush 63, 2) := by decide +kernel
theorem dL_law_32 : decode cL_law 32 = .ok (.iand, 1) := by decide +kernel
theorem dL_law_33 : decode cL_law 33 = .ok (.tableswitch 1331 0 48 #[211, 244, 287, 320, 343, 406, 429, 462, 505, 528, 551, 584, 617, 650, 663, 696, 729, 752, 775, 788, 811, 824, 847, 870, 893, 906, 929, 952, 965, 978, 991, 1014, 1027, 1060, 1073, 1086, 1109, 1122, 1145, 1158, 1171, 1184, 1217, 1230, 1244, 1258, 1281, 1294, 1317], 211) := by decide +kernel
theorem dL_law_244 : decode cL_law 244 = .ok (.aload_n 1, 1) := by decide +kernel
theorem dL_law_245 : decode cL_law 245 = .ok (.aload_n 0, 1) := by decide +kernel
theorem dL_law_246 : decode cL_law 246 = .ok (.iload_n 3, 1) := by decide +kernel
theorem dL_law_247 : decode cL_law 247 = .ok (.iconst 1, 1) := by decide +kernel
theorem dL_law_248 : decode cL_law 248 = .ok (.iadd, 1) := by decide +kernel
theorem dL_law_249 : decode cL_law 249 = .ok (.iaload, 1) := by decide +kernel
theorem dL_law_250 : decode cL_law 250 = .ok (.aload_n 0, 1) := by decide +kernel
theorem dL_law_251 : decode cL_law 251 = .ok (.iload_n 3, 1) := by decide +kernel
theorem dL_law_252 : decode cL_law 252 = .ok (.iconst 2, 1) := by decide +kernel
theorem dL_law_253 : decode cL_law 253 = .ok (.iadd, 1) := by decide +kernel
theorem dL_law_254 : decode cL_law 254 = .ok (.iaload, 1) := by decide +kernel
theorem dL_law_255 : decode cL_law 255 = .ok (.invokevirtual 13, 3) := by decide +kernel
theorem dL_law_258 : decode cL_law 258 = .ok (.aload_n 2, 1) := by decide +kernel
theorem dL_law_259 : decode cL_law 259 = .ok (.aload_n 0, 1) := by decide +kernel
theorem dL_law_260 : decode cL_law 260 = .ok (.iload_n 3, 1) := by decide +kernel
theorem dL_law_261 : decode cL_law 261 = .ok (.iconst 1, 1) := by decide +kernel
theorem dL_law_262 : decode cL_law 262 = .ok (.iadd, 1) := by decide +kernel
theorem dL_law_263 : decode cL_law 263 = .ok (.iaload, 1) := by decide +kernel
theorem dL_law_264 : decode cL_law 264 = .ok (.aload_n 0, 1) := by decide +kernel
theorem dL_law_265 : decode cL_law 265 = .ok (.iload_n 3, 1) := by decide +kernel
theorem dL_law_266 : decode cL_law 266 = .ok (.iconst 2, 1) := by decide +kernel
theorem dL_law_267 : decode cL_law 267 = .ok (.iadd, 1) := by decide +kernel
theorem dL_law_268 : decode cL_law 268 = .ok (.iaload, 1) := by decide +kernel
theorem dL_law_269 : decode cL_law 269 = .ok (.invokevirtual 17, 3) := by decide +kernel
theorem dL_law_272 : decode cL_law 272 = .ok (.if_icmp .eq 1092, 3) := by decide +kernel
theorem dL_law_275 : decode cL_law 275 = .ok (.iconst 0, 1) := by decide +kernel
theorem dL_law_276 : decode cL_law 276 = .ok (.ireturn, 1) := by decide +kernel
theorem dL_law_277 : decode cL_law 277 = .ok (.aload_n 1, 1) := by decide +kernel
theorem dL_law_278 : decode cL_law 278 = .ok (.aload_n 0, 1) := by decide +kernel
theorem dL_law_279 : decode cL_law 279 = .ok (.iload_n 3, 1) := by decide +kernel
theorem dL_law_280 : decode cL_law 280 = .ok (.iconst 1, 1) := by decide +kernel
theorem dL_law_281 : decode cL_law 281 = .ok (.iadd, 1) := by decide +kernel
theorem dL_law_282 : decode cL_law 282 = .ok (.iaload, 1) := by decide +kernel
theorem dL_law_283 : decode cL_law 283 = .ok (.aload_n 0, 1) := by decide +kernel
theorem dL_law_284 : decode cL_law 284 = .ok (.iload_n 3, 1) := by decide +kernel
theorem dL_law_285 : decode cL_law 285 = .ok (.iconst 2, 1) := by decide +kernel
theorem dL_law_286 : decode cL_law 286 = .ok (.iadd, 1) := by decide +kernel
theorem dL_law_287 : decode cL_law 287 = .ok (.iaload, 1) := by decide +kernel
theorem dL_law_288 : decode cL_law 288 = .ok (.aload_n 0, 1) := by decide +kernel
theorem dL_law_289 : decode cL_law 289 = .ok (.iload_n 3, 1) := by decide +kernel
theorem dL_law_290 : decode cL_law 290 = .ok (.iconst 3, 1) := by decide +kernel
theorem dL_law_291 : decode cL_law 291 = .ok (.iadd, 1) := by decide +kernel
theorem dL_law_292 : decode cL_law 292 = .ok (.iaload, 1) := by decide +kernel
theorem dL_law_293 : decode cL_law 293 = .ok (.invokevirtual 18, 3) := by decide +kernel
theorem dL_law_296 : decode cL_law 296 = .ok (.aload_n 2, 1) := by decide +kernel
theorem dL_law_297 : decode cL_law 297 = .ok (.aload_n 0, 1) := by decide +kernel
theorem dL_law_298 : decode cL_law 298 = .ok (.iload_n 3, 1) := by decide +kernel
theorem dL_law_299 : decode cL_law 299 = .ok (.iconst 1, 1) := by decide +kernel
theorem dL_law_300 : decode cL_law 300 = .ok (.iadd, 1) := by decide +kernel
theorem dL_law_301 : decode cL_law 301 = .ok (.iaload, 1) := by decide +kernel
theorem dL_law_302 : decode cL_law 302 = .ok (.aload_n 0, 1) := by decide +kernel
theorem dL_law_303 : decode cL_law 303 = .ok (.iload_n 3, 1) := by decide +kernel
theorem dL_law_304 : decode cL_law 304 = .ok (.iconst 2, 1) := by decide +kernel
theorem dL_law_305 : decode cL_law 305 = .ok (.iadd, 1) := by decide +kernel
theorem dL_law_306 : decode cL_law 306 = .ok (.iaload, 1) := by decide +kernel
theorem dL_law_307 : decode cL_law 307 = .ok (.aload_n 0, 1) := by decide +kernel
theorem dL_law_308 : decode cL_law 308 = .ok (.iload_n 3, 1) := by decide +kernel
theorem dL_law_309 : decode cL_law 309 = .ok (.iconst 3, 1) := by decide +kernel
theorem dL_law_310 : decode cL_law 310 = .ok (.iadd, 1) := by decide +kernel
theorem dL_law_311 : decode cL_law 311 = .ok (.iaload, 1) := by decide +kernel
theorem dL_law_312 : decode cL_law 312 = .ok (.invokevirtual 22, 3) := by decide +kernel
theorem dL_law_315 : decode cL_law 315 = .ok (.if_icmp .eq 1049, 3) := by decide +kernel
theorem dL_law_318 : decode cL_law 318 = .ok (.iconst 0, 1) := by decide +kernel
theorem dL_law_319 : decode cL_law 319 = .ok (.ireturn, 1) := by decide +kernel
theorem dL_law_320 : decode cL_law 320 = .ok (.aload_n 1, 1) := by decide +kernel
theorem dL_law_321 : decode cL_law 321 = .ok (.aload_n 0, 1) := by decide +kernel
theorem dL_law_322 : decode cL_law 322 = .ok (.iload_n 3, 1) := by decide +kernel
theorem dL_law_323 : decode cL_law 323 = .ok (.iconst 1, 1) := by decide +kernel
theorem dL_law_324 : decode cL_law 324 = .ok (.iadd, 1) := by decide +kernel
theorem dL_law_325 : decode cL_law 325 = .ok (.iaload, 1) := by decide +kernel
theorem dL_law_326 : decode cL_law 326 = .ok (.aload_n 0, 1) := by decide +kernel
theorem dL_law_327 : decode cL_law 327 = .ok (.iload_n 3, 1) := by decide +kernel
theorem dL_law_328 : decode cL_law 328 = .ok (.iconst 2, 1) := by decide +kernel
theorem dL_law_329 : decode cL_law 329 = .ok (.iadd, 1) := by decide +kernel
theorem dL_law_330 : decode cL_law 330 = .ok (.iaload, 1) := by decide +kernel
theorem dL_law_331 : decode cL_law 331 = .ok (.invokevirtual 23, 3) := by decide +kernel
theorem dL_law_334 : decode cL_law 334 = .ok (.aload_n 2, 1) := by decide +kernel
theorem dL_law_335 : decode cL_law 335 = .ok (.aload_n 0, 1) := by decide +kernel
theorem dL_law_336 : decode cL_law 336 = .ok (.iload_n 3, 1) := by decide +kernel
theorem dL_law_337 : decode cL_law 337 = .ok (.iconst 1, 1) := by decide +kernel
theorem dL_law_338 : decode cL_law 338 = .ok (.iadd, 1) := by decide +kernel
theorem dL_law_339 : decode cL_law 339 = .ok (.iaload, 1) := by decide +kernel
theorem dL_law_340 : decode cL_law 340 = .ok (.aload_n 0, 1) := by decide +kernel
theorem dL_law_341 : decode cL_law 341 = .ok (.iload_n 3, 1) := by decide +kernel
theorem dL_law_342 : decode cL_law 342 = .ok (.iconst 2, 1) := by decide +kernel
theorem dL_law_343 : decode cL_law 343 = .ok (.iadd, 1) := by decide +kernel
theorem dL_law_344 : decode cL_law 344 = .ok (.iaload, 1) := by decide +kernel
theorem dL_law_345 : decode cL_law 345 = .ok (.invokevirtual 26, 3) := by decide +kernel
theorem dL_law_348 : decode cL_law 348 = .ok (.if_icmp .eq 1016, 3) := by decide +kernel
theorem dL_law_351 : decode cL_law 351 = .ok (.iconst 0, 1) := by decide +kernel
theorem dL_law_352 : decode cL_law 352 = .ok (.ireturn, 1) := by decide +kernel
theorem dL_law_353 : decode cL_law 353 = .ok (.aload_n 1, 1) := by decide +kernel
theorem dL_law_354 : decode cL_law 354 = .ok (.aload_n 0, 1) := by decide +kernel
theorem dL_law_355 : decode cL_law 355 = .ok (.iload_n 3, 1) := by decide +kernel
theorem dL_law_356 : decode cL_law 356 = .ok (.iconst 1, 1) := by decide +kernel
theorem dL_law_357 : decode cL_law 357 = .ok (.iadd, 1) := by decide +kernel
theorem dL_law_358 : decode cL_law 358 = .ok (.iaload, 1) := by decide +kernel
theorem dL_law_359 : decode cL_law 359 = .ok (.invokevirtual 27, 3) := by decide +kernel
theorem dL_law_362 : decode cL_law 362 = .ok (.aload_n 2, 1) := by decide +kernel
theorem dL_law_363 : decode cL_law 363 = .ok (.aload_n 0, 1) := by decide +kernel
theorem dL_law_364 : decode cL_law 364 = .ok (.iload_n 3, 1) := by decide +kernel
theorem dL_law_365 : decode cL_law 365 = .ok (.iconst 1, 1) := by decide +kernel
theorem dL_law_366 : decode cL_law 366 = .ok (.iadd, 1) := by decide +kernel
theorem dL_law_367 : decode cL_law 367 = .ok (.iaload, 1) := by decide +kernel
theorem dL_law_368 : decode cL_law 368 = .ok (.invokevirtual 31, 3) := by decide +kernel
theorem dL_law_371 : decode cL_law 371 = .ok (.if_icmp .eq 993, 3) := by decide +kernel
theorem dL_law_374 : decode cL_law 374 = .ok (.iconst 0, 1) := by decide +kernel
theorem dL_law_375 : decode cL_law 375 = .ok (.ireturn, 1) := by decide +kernel
theorem dL_law_376 : decode cL_law 376 = .ok (.aload_n 1, 1) := by decide +kernel
theorem dL_law_377 : decode cL_law 377 = .ok (.aload_n 0, 1) := by decide +kernel
theorem dL_law_378 : decode cL_law 378 = .ok (.iload_n 3, 1) := by decide +kernel
theorem dL_law_379 : decode cL_law 379 = .ok (.iconst 1, 1) := by decide +kernel
theorem dL_law_380 : decode cL_law 380 = .ok (.iadd, 1) := by decide +kernel
theorem dL_law_381 : decode cL_law 381 = .ok (.iaload, 1) := by decide +kernel
theorem dL_law_382 : decode cL_law 382 = .ok (.aload_n 0, 1) := by decide +kernel
theorem dL_law_383 : decode cL_law 383 = .ok (.iload_n 3, 1) := by decide +kernel
theorem dL_law_384 : decode cL_law 384 = .ok (.iconst 2, 1) := by decide +kernel
theorem dL_law_385 : decode cL_law 385 = .ok (.iadd, 1) := by decide +kernel
theorem dL_law_386 : decode cL_law 386 = .ok (.iaload, 1) := by decide +kernel
theorem dL_law_387 : decode cL_law 387 = .ok (.aload_n 0, 1) := by decide +kernel
theorem dL_law_388 : decode cL_law 388 = .ok (.iload_n 3, 1) := by decide +kernel
theorem dL_law_389 : decode cL_law 389 = .ok (.iconst 3, 1) := by decide +kernel
theorem dL_law_390 : decode cL_law 390 = .ok (.iadd, 1) := by decide +kernel
theorem dL_law_391 : decode cL_law 391 = .ok (.iaload, 1) := by decide +kernel
theorem dL_law_392 : decode cL_law 392 = .ok (.aload_n 0, 1) := by decide +kernel
theorem dL_law_393 : decode cL_law 393 = .ok (.iload_n 3, 1) := by decide +kernel
theorem dL_law_394 : decode cL_law 394 = .ok (.iconst 4, 1) := by decide +kernel
theorem dL_law_395 : decode cL_law 395 = .ok (.iadd, 1) := by decide +kernel
theorem dL_law_396 : decode cL_law 396 = .ok (.iaload, 1) := by decide +kernel
theorem dL_law_397 : decode cL_law 397 = .ok (.aload_n 0, 1) := by decide +kernel
theorem dL_law_398 : decode cL_law 398 = .ok (.iload_n 3, 1) := by decide +kernel
theorem dL_law_399 : decode cL_law 399 = .ok (.iconst 5, 1) := by decide +kernel
theorem dL_law_400 : decode cL_law 400 = .ok (.iadd, 1) := by decide +kernel
theorem dL_law_401 : decode cL_law 401 = .ok (.iaload, 1) := by decide +kernel
theorem dL_law_402 : decode cL_law 402 = .ok (.invokevirtual 32, 3) := by decide +kernel
theorem dL_law_405 : decode cL_law 405 = .ok (.aload_n 2, 1) := by decide +kernel
theorem dL_law_406 : decode cL_law 406 = .ok (.aload_n 0, 1) := by decide +kernel
theorem dL_law_407 : decode cL_law 407 = .ok (.iload_n 3, 1) := by decide +kernel
theorem dL_law_408 : decode cL_law 408 = .ok (.iconst 1, 1) := by decide +kernel
theorem dL_law_409 : decode cL_law 409 = .ok (.iadd, 1) := by decide +kernel
theorem dL_law_410 : decode cL_law 410 = .ok (.iaload, 1) := by decide +kernel
theorem dL_law_411 : decode cL_law 411 = .ok (.aload_n 0, 1) := by decide +kernel
theorem dL_law_412 : decode cL_law 412 = .ok (.iload_n 3, 1) := by decide +kernel
theorem dL_law_413 : decode cL_law 413 = .ok (.iconst 2, 1) := by decide +kernel
theorem dL_law_414 : decode cL_law 414 = .ok (.iadd, 1) := by decide +kernel
theorem dL_law_415 : decode cL_law 415 = .ok (.iaload, 1) := by decide +kernel
theorem dL_law_416 : decode cL_law 416 = .ok (.aload_n 0, 1) := by decide +kernel
theorem dL_law_417 : decode cL_law 417 = .ok (.iload_n 3, 1) := by decide +kernel
theorem dL_law_418 : decode cL_law 418 = .ok (.iconst 3, 1) := by decide +kernel
theorem dL_law_419 : decode cL_law 419 = .ok (.iadd, 1) := by decide +kernel
theorem dL_law_420 : decode cL_law 420 = .ok (.iaload, 1) := by decide +kernel
theorem dL_law_421 : decode cL_law 421 = .ok (.aload_n 0, 1) := by decide +kernel
theorem dL_law_422 : decode cL_law 422 = .ok (.iload_n 3, 1) := by decide +kernel
theorem dL_law_423 : decode cL_law 423 = .ok (.iconst 4, 1) := by decide +kernel
theorem dL_law_424 : decode cL_law 424 = .ok (.iadd, 1) := by decide +kernel
theorem dL_law_425 : decode cL_law 425 = .ok (.iaload, 1) := by decide +kernel
theorem dL_law_426 : decode cL_law 426 = .ok (.aload_n 0, 1) := by decide +kernel
theorem dL_law_427 : decode cL_law 427 = .ok (.iload_n 3, 1) := by decide +kernel
theorem dL_law_428 : decode cL_law 428 = .ok (.iconst 5, 1) := by decide +kernel
theorem dL_law_429 : decode cL_law 429 = .ok (.iadd, 1) := by decide +kernel
theorem dL_law_430 : decode cL_law 430 = .ok (.iaload, 1) := by decide +kernel
theorem dL_law_431 : decode cL_law 431 = .ok (.invokevirtual 36, 3) := by decide +kernel
theorem dL_law_434 : decode cL_law 434 = .ok (.if_icmp .eq 930, 3) := by decide +kernel
theorem dL_law_437 : decode cL_law 437 = .ok (.iconst 0, 1) := by decide +kernel
theorem dL_law_438 : decode cL_law 438 = .ok (.ireturn, 1) := by decide +kernel
theorem dL_law_439 : decode cL_law 439 = .ok (.aload_n 1, 1) := by decide +kernel
theorem dL_law_440 : decode cL_law 440 = .ok (.aload_n 0, 1) := by decide +kernel
theorem dL_law_441 : decode cL_law 441 = .ok (.iload_n 3, 1) := by decide +kernel
theorem dL_law_442 : decode cL_law 442 = .ok (.iconst 1, 1) := by decide +kernel
theorem dL_law_443 : decode cL_law 443 = .ok (.iadd, 1) := by decide +kernel
theorem dL_law_444 : decode cL_law 444 = .ok (.iaload, 1) := by decide +kernel
theorem dL_law_445 : decode cL_law 445 = .ok (.invokevirtual 37, 3) := by decide +kernel
theorem dL_law_448 : decode cL_law 448 = .ok (.aload_n 2, 1) := by decide +kernel
theorem dL_law_449 : decode cL_law 449 = .ok (.aload_n 0, 1) := by decide +kernel
theorem dL_law_450 : decode cL_law 450 = .ok (.iload_n 3, 1) := by decide +kernel
theorem dL_law_451 : decode cL_law 451 = .ok (.iconst 1, 1) := by decide +kernel
theorem dL_law_452 : decode cL_law 452 = .ok (.iadd, 1) := by decide +kernel
theorem dL_law_453 : decode cL_law 453 = .ok (.iaload, 1) := by decide +kernel
theorem dL_law_454 : decode cL_law 454 = .ok (.invokevirtual 40, 3) := by decide +kernel
theorem dL_law_457 : decode cL_law 457 = .ok (.if_icmp .eq 907, 3) := by decide +kernel
theorem dL_law_460 : decode cL_law 460 = .ok (.iconst 0, 1) := by decide +kernel
theorem dL_law_461 : decode cL_law 461 = .ok (.ireturn, 1) := by decide +kernel
theorem dL_law_462 : decode cL_law 462 = .ok (.aload_n 1, 1) := by decide +kernel
theorem dL_law_463 : decode cL_law 463 = .ok (.aload_n 0, 1) := by decide +kernel
theorem dL_law_464 : decode cL_law 464 = .ok (.iload_n 3, 1) := by decide +kernel
theorem dL_law_465 : decode cL_law 465 = .ok (.iconst 1, 1) := by decide +kernel
theorem dL_law_466 : decode cL_law 466 = .ok (.iadd, 1) := by decide +kernel
theorem dL_law_467 : decode cL_law 467 = .ok (.iaload, 1) := by decide +kernel
theorem dL_law_468 : decode cL_law 468 = .ok (.aload_n 0, 1) := by decide +kernel
theorem dL_law_469 : decode cL_law 469 = .ok (.iload_n 3, 1) := by decide +kernel
theorem dL_law_470 : decode cL_law 470 = .ok (.iconst 2, 1) := by decide +kernel
theorem dL_law_471 : decode cL_law 471 = .ok (.iadd, 1) := by decide +kernel
theorem dL_law_472 : decode cL_law 472 = .ok (.iaload, 1) := by decide +kernel
theorem dL_law_473 : decode cL_law 473 = .ok (.invokevirtual 41, 3) := by decide +kernel
theorem dL_law_476 : decode cL_law 476 = .ok (.aload_n 2, 1) := by decide +kernel
theorem dL_law_477 : decode cL_law 477 = .ok (.aload_n 0, 1) := by decide +kernel
theorem dL_law_478 : decode cL_law 478 = .ok (.iload_n 3, 1) := by decide +kernel
theorem dL_law_479 : decode cL_law 479 = .ok (.iconst 1, 1) := by decide +kernel
theorem dL_law_480 : decode cL_law 480 = .ok (.iadd, 1) := by decide +kernel
theorem dL_law_481 : decode cL_law 481 = .ok (.iaload, 1) := by decide +kernel
theorem dL_law_482 : decode cL_law 482 = .ok (.aload_n 0, 1) := by decide +kernel
theorem dL_law_483 : decode cL_law 483 = .ok (.iload_n 3, 1) := by decide +kernel
theorem dL_law_484 : decode cL_law 484 = .ok (.iconst 2, 1) := by decide +kernel
theorem dL_law_485 : decode cL_law 485 = .ok (.iadd, 1) := by decide +kernel
theorem dL_law_486 : decode cL_law 486 = .ok (.iaload, 1) := by decide +kernel
theorem dL_law_487 : decode cL_law 487 = .ok (.invokevirtual 44, 3) := by decide +kernel
theorem dL_law_490 : decode cL_law 490 = .ok (.if_icmp .eq 874, 3) := by decide +kernel
theorem dL_law_493 : decode cL_law 493 = .ok (.iconst 0, 1) := by decide +kernel
theorem dL_law_494 : decode cL_law 494 = .ok (.ireturn, 1) := by decide +kernel
theorem dL_law_495 : decode cL_law 495 = .ok (.aload_n 1, 1) := by decide +kernel
theorem dL_law_496 : decode cL_law 496 = .ok (.aload_n 0, 1) := by decide +kernel
theorem dL_law_497 : decode cL_law 497 = .ok (.iload_n 3, 1) := by decide +kernel
theorem dL_law_498 : decode cL_law 498 = .ok (.iconst 1, 1) := by decide +kernel
theorem dL_law_499 : decode cL_law 499 = .ok (.iadd, 1) := by decide +kernel
theorem dL_law_500 : decode cL_law 500 = .ok (.iaload, 1) := by decide +kernel
theorem dL_law_501 : decode cL_law 501 = .ok (.aload_n 0, 1) := by decide +kernel
theorem dL_law_502 : decode cL_law 502 = .ok (.iload_n 3, 1) := by decide +kernel
theorem dL_law_503 : decode cL_law 503 = .ok (.iconst 2, 1) := by decide +kernel
theorem dL_law_504 : decode cL_law 504 = .ok (.iadd, 1) := by decide +kernel
theorem dL_law_505 : decode cL_law 505 = .ok (.iaload, 1) := by decide +kernel
theorem dL_law_506 : decode cL_law 506 = .ok (.aload_n 0, 1) := by decide +kernel
theorem dL_law_507 : decode cL_law 507 = .ok (.iload_n 3, 1) := by decide +kernel
theorem dL_law_508 : decode cL_law 508 = .ok (.iconst 3, 1) := by decide +kernel
theorem dL_law_509 : decode cL_law 509 = .ok (.iadd, 1) := by decide +kernel
theorem dL_law_510 : decode cL_law 510 = .ok (.iaload, 1) := by decide +kernel
theorem dL_law_511 : decode cL_law 511 = .ok (.invokevirtual 45, 3) := by decide +kernel
theorem dL_law_514 : decode cL_law 514 = .ok (.aload_n 2, 1) := by decide +kernel
theorem dL_law_515 : decode cL_law 515 = .ok (.aload_n 0, 1) := by decide +kernel
theorem dL_law_516 : decode cL_law 516 = .ok (.iload_n 3, 1) := by decide +kernel
theorem dL_law_517 : decode cL_law 517 = .ok (.iconst 1, 1) := by decide +kernel
theorem dL_law_518 : decode cL_law 518 = .ok (.iadd, 1) := by decide +kernel
theorem dL_law_519 : decode cL_law 519 = .ok (.iaload, 1) := by decide +kernel
theorem dL_law_520 : decode cL_law 520 = .ok (.aload_n 0, 1) := by decide +kernel
theorem dL_law_521 : decode cL_law 521 = .ok (.iload_n 3, 1) := by decide +kernel
theorem dL_law_522 : decode cL_law 522 = .ok (.iconst 2, 1) := by decide +kernel
theorem dL_law_523 : decode cL_law 523 = .ok (.iadd, 1) := by decide +kernel
theorem dL_law_524 : decode cL_law 524 = .ok (.iaload, 1) := by decide +kernel
theorem dL_law_525 : decode cL_law 525 = .ok (.aload_n 0, 1) := by decide +kernel
theorem dL_law_526 : decode cL_law 526 = .ok (.iload_n 3, 1) := by decide +kernel
theorem dL_law_527 : decode cL_law 527 = .ok (.iconst 3, 1) := by decide +kernel
theorem dL_law_528 : decode cL_law 528 = .ok (.iadd, 1) := by decide +kernel
theorem dL_law_529 : decode cL_law 529 = .ok (.iaload, 1) := by decide +kernel
theorem dL_law_530 : decode cL_law 530 = .ok (.invokevirtual 48, 3) := by decide +kernel
theorem dL_law_533 : decode cL_law 533 = .ok (.if_icmp .eq 831, 3) := by decide +kernel
theorem dL_law_536 : decode cL_law 536 = .ok (.iconst 0, 1) := by decide +kernel
theorem dL_law_537 : decode cL_law 537 = .ok (.ireturn, 1) := by decide +kernel
theorem dL_law_538 : decode cL_law 538 = .ok (.aload_n 1, 1) := by decide +kernel
theorem dL_law_539 : decode cL_law 539 = .ok (.aload_n 0, 1) := by decide +kernel
theorem dL_law_540 : decode cL_law 540 = .ok (.iload_n 3, 1) := by decide +kernel
theorem dL_law_541 : decode cL_law 541 = .ok (.iconst 1, 1) := by decide +kernel
theorem dL_law_542 : decode cL_law 542 = .ok (.iadd, 1) := by decide +kernel
theorem dL_law_543 : decode cL_law 543 = .ok (.iaload, 1) := by decide +kernel
theorem dL_law_544 : decode cL_law 544 = .ok (.invokevirtual 49, 3) := by decide +kernel
theorem dL_law_547 : decode cL_law 547 = .ok (.aload_n 2, 1) := by decide +kernel
theorem dL_law_548 : decode cL_law 548 = .ok (.aload_n 0, 1) := by decide +kernel
theorem dL_law_549 : decode cL_law 549 = .ok (.iload_n 3, 1) := by decide +kernel
theorem dL_law_550 : decode cL_law 550 = .ok (.iconst 1, 1) := by decide +kernel
theorem dL_law_551 : decode cL_law 551 = .ok (.iadd, 1) := by decide +kernel
theorem dL_law_552 : decode cL_law 552 = .ok (.iaload, 1) := by decide +kernel
theorem dL_law_553 : decode cL_law 553 = .ok (.invokevirtual 52, 3) := by decide +kernel
theorem dL_law_556 : decode cL_law 556 = .ok (.if_icmp .eq 808, 3) := by decide +kernel
theorem dL_law_559 : decode cL_law 559 = .ok (.iconst 0, 1) := by decide +kernel
theorem dL_law_560 : decode cL_law 560 = .ok (.ireturn, 1) := by decide +kernel
theorem dL_law_561 : decode cL_law 561 = .ok (.aload_n 1, 1) := by decide +kernel
theorem dL_law_562 : decode cL_law 562 = .ok (.aload_n 0, 1) := by decide +kernel
theorem dL_law_563 : decode cL_law 563 = .ok (.iload_n 3, 1) := by decide +kernel
theorem dL_law_564 : decode cL_law 564 = .ok (.iconst 1, 1) := by decide +kernel
theorem dL_law_565 : decode cL_law 565 = .ok (.iadd, 1) := by decide +kernel
theorem dL_law_566 : decode cL_law 566 = .ok (.iaload, 1) := by decide +kernel
theorem dL_law_567 : decode cL_law 567 = .ok (.invokevirtual 53, 3) := by decide +kernel
theorem dL_law_570 : decode cL_law 570 = .ok (.aload_n 2, 1) := by decide +kernel
theorem dL_law_571 : decode cL_law 571 = .ok (.aload_n 0, 1) := by decide +kernel
theorem dL_law_572 : decode cL_law 572 = .ok (.iload_n 3, 1) := by decide +kernel
theorem dL_law_573 : decode cL_law 573 = .ok (.iconst 1, 1) := by decide +kernel
theorem dL_law_574 : decode cL_law 574 = .ok (.iadd, 1) := by decide +kernel
theorem dL_law_575 : decode cL_law 575 = .ok (.iaload, 1) := by decide +kernel
theorem dL_law_576 : decode cL_law 576 = .ok (.invokevirtual 56, 3) := by decide +kernel
theorem dL_law_579 : decode cL_law 579 = .ok (.if_icmp .eq 785, 3) := by decide +kernel
theorem dL_law_582 : decode cL_law 582 = .ok (.iconst 0, 1) := by decide +kernel
theorem dL_law_583 : decode cL_law 583 = .ok (.ireturn, 1) := by decide +kernel
theorem dL_law_584 : decode cL_law 584 = .ok (.aload_n 1, 1) := by decide +kernel
theorem dL_law_585 : decode cL_law 585 = .ok (.aload_n 0, 1) := by decide +kernel
theorem dL_law_586 : decode cL_law 586 = .ok (.iload_n 3, 1) := by decide +kernel
theorem dL_law_587 : decode cL_law 587 = .ok (.iconst 1, 1) := by decide +kernel
theorem dL_law_588 : decode cL_law 588 = .ok (.iadd, 1) := by decide +kernel
theorem dL_law_589 : decode cL_law 589 = .ok (.iaload, 1) := by decide +kernel
theorem dL_law_590 : decode cL_law 590 = .ok (.aload_n 0, 1) := by decide +kernel
theorem dL_law_591 : decode cL_law 591 = .ok (.iload_n 3, 1) := by decide +kernel
theorem dL_law_592 : decode cL_law 592 = .ok (.iconst 2, 1) := by decide +kernel
theorem dL_law_593 : decode cL_law 593 = .ok (.iadd, 1) := by decide +kernel
theorem dL_law_594 : decode cL_law 594 = .ok (.iaload, 1) := by decide +kernel
theorem dL_law_595 : decode cL_law 595 = .ok (.invokevirtual 57, 3) := by decide +kernel
theorem dL_law_598 : decode cL_law 598 = .ok (.aload_n 2, 1) := by decide +kernel
theorem dL_law_599 : decode cL_law 599 = .ok (.aload_n 0, 1) := by decide +kernel
theorem dL_law_600 : decode cL_law 600 = .ok (.iload_n 3, 1) := by decide +kernel
theorem dL_law_601 : decode cL_law 601 = .ok (.iconst 1, 1) := by decide +kernel
theorem dL_law_602 : decode cL_law 602 = .ok (.iadd, 1) := by decide +kernel
theorem dL_law_603 : decode cL_law 603 = .ok (.iaload, 1) := by decide +kernel
theorem dL_law_604 : decode cL_law 604 = .ok (.aload_n 0, 1) := by decide +kernel
theorem dL_law_605 : decode cL_law 605 = .ok (.iload_n 3, 1) := by decide +kernel
theorem dL_law_606 : decode cL_law 606 = .ok (.iconst 2, 1) := by decide +kernel
theorem dL_law_607 : decode cL_law 607 = .ok (.iadd, 1) := by decide +kernel
theorem dL_law_608 : decode cL_law 608 = .ok (.iaload, 1) := by decide +kernel
theorem dL_law_609 : decode cL_law 609 = .ok (.invokevirtual 60, 3) := by decide +kernel
theorem dL_law_612 : decode cL_law 612 = .ok (.if_icmp .eq 752, 3) := by decide +kernel
theorem dL_law_615 : decode cL_law 615 = .ok (.iconst 0, 1) := by decide +kernel
theorem dL_law_616 : decode cL_law 616 = .ok (.ireturn, 1) := by decide +kernel
theorem dL_law_617 : decode cL_law 617 = .ok (.aload_n 1, 1) := by decide +kernel
theorem dL_law_618 : decode cL_law 618 = .ok (.aload_n 0, 1) := by decide +kernel
theorem dL_law_619 : decode cL_law 619 = .ok (.iload_n 3, 1) := by decide +kernel
theorem dL_law_620 : decode cL_law 620 = .ok (.iconst 1, 1) := by decide +kernel
theorem dL_law_621 : decode cL_law 621 = .ok (.iadd, 1) := by decide +kernel
theorem dL_law_622 : decode cL_law 622 = .ok (.iaload, 1) := by decide +kernel
theorem dL_law_623 : decode cL_law 623 = .ok (.aload_n 0, 1) := by decide +kernel
theorem dL_law_624 : decode cL_law 624 = .ok (.iload_n 3, 1) := by decide +kernel
theorem dL_law_625 : decode cL_law 625 = .ok (.iconst 2, 1) := by decide +kernel
theorem dL_law_626 : decode cL_law 626 = .ok (.iadd, 1) := by decide +kernel
theorem dL_law_627 : decode cL_law 627 = .ok (.iaload, 1) := by decide +kernel
theorem dL_law_628 : decode cL_law 628 = .ok (.invokevirtual 61, 3) := by decide +kernel
theorem dL_law_631 : decode cL_law 631 = .ok (.aload_n 2, 1) := by decide +kernel
theorem dL_law_632 : decode cL_law 632 = .ok (.aload_n 0, 1) := by decide +kernel
theorem dL_law_633 : decode cL_law 633 = .ok (.iload_n 3, 1) := by decide +kernel
theorem dL_law_634 : decode cL_law 634 = .ok (.iconst 1, 1) := by decide +kernel
theorem dL_law_635 : decode cL_law 635 = .ok (.iadd, 1) := by decide +kernel
theorem dL_law_636 : decode cL_law 636 = .ok (.iaload, 1) := by decide +kernel
theorem dL_law_637 : decode cL_law 637 = .ok (.aload_n 0, 1) := by decide +kernel
theorem dL_law_638 : decode cL_law 638 = .ok (.iload_n 3, 1) := by decide +kernel
theorem dL_law_639 : decode cL_law 639 = .ok (.iconst 2, 1) := by decide +kernel
theorem dL_law_640 : decode cL_law 640 = .ok (.iadd, 1) := by decide +kernel
theorem dL_law_641 : decode cL_law 641 = .ok (.iaload, 1) := by decide +kernel
theorem dL_law_642 : decode cL_law 642 = .ok (.invokevirtual 64, 3) := by decide +kernel
theorem dL_law_645 : decode cL_law 645 = .ok (.if_icmp .eq 719, 3) := by decide +kernel
theorem dL_law_648 : decode cL_law 648 = .ok (.iconst 0, 1) := by decide +kernel
theorem dL_law_649 : decode cL_law 649 = .ok (.ireturn, 1) := by decide +kernel
theorem dL_law_650 : decode cL_law 650 = .ok (.aload_n 1, 1) := by decide +kernel
theorem dL_law_651 : decode cL_law 651 = .ok (.aload_n 0, 1) := by decide +kernel
theorem dL_law_652 : decode cL_law 652 = .ok (.iload_n 3, 1) := by decide +kernel
theorem dL_law_653 : decode cL_law 653 = .ok (.iconst 1, 1) := by decide +kernel
theorem dL_law_654 : decode cL_law 654 = .ok (.iadd, 1) := by decide +kernel
theorem dL_law_655 : decode cL_law 655 = .ok (.iaload, 1) := by decide +kernel
theorem dL_law_656 : decode cL_law 656 = .ok (.aload_n 0, 1) := by decide +kernel
theorem dL_law_657 : decode cL_law 657 = .ok (.iload_n 3, 1) := by decide +kernel
theorem dL_law_658 : decode cL_law 658 = .ok (.iconst 2, 1) := by decide +kernel
theorem dL_law_659 : decode cL_law 659 = .ok (.iadd, 1) := by decide +kernel
theorem dL_law_660 : decode cL_law 660 = .ok (.iaload, 1) := by decide +kernel
theorem dL_law_661 : decode cL_law 661 = .ok (.invokevirtual 65, 3) := by decide +kernel
theorem dL_law_664 : decode cL_law 664 = .ok (.aload_n 2, 1) := by decide +kernel
theorem dL_law_665 : decode cL_law 665 = .ok (.aload_n 0, 1) := by decide +kernel
theorem dL_law_666 : decode cL_law 666 = .ok (.iload_n 3, 1) := by decide +kernel
theorem dL_law_667 : decode cL_law 667 = .ok (.iconst 1, 1) := by decide +kernel
theorem dL_law_668 : decode cL_law 668 = .ok (.iadd, 1) := by decide +kernel
theorem dL_law_669 : decode cL_law 669 = .ok (.iaload, 1) := by decide +kernel
theorem dL_law_670 : decode cL_law 670 = .ok (.aload_n 0, 1) := by decide +kernel
theorem dL_law_671 : decode cL_law 671 = .ok (.iload_n 3, 1) := by decide +kernel
theorem dL_law_672 : decode cL_law 672 = .ok (.iconst 2, 1) := by decide +kernel
theorem dL_law_673 : decode cL_law 673 = .ok (.iadd, 1) := by decide +kernel
theorem dL_law_674 : decode cL_law 674 = .ok (.iaload, 1) := by decide +kernel
theorem dL_law_675 : decode cL_law 675 = .ok (.invokevirtual 68, 3) := by decide +kernel
theorem dL_law_678 : decode cL_law 678 = .ok (.if_icmp .eq 686, 3) := by decide +kernel
theorem dL_law_681 : decode cL_law 681 = .ok (.iconst 0, 1) := by decide +kernel
theorem dL_law_682 : decode cL_law 682 = .ok (.ireturn, 1) := by decide +kernel
theorem dL_law_683 : decode cL_law 683 = .ok (.aload_n 1, 1) := by decide +kernel
theorem dL_law_684 : decode cL_law 684 = .ok (.invokevirtual 69, 3) := by decide +kernel
theorem dL_law_687 : decode cL_law 687 = .ok (.aload_n 2, 1) := by decide +kernel
theorem dL_law_688 : decode cL_law 688 = .ok (.invokevirtual 73, 3) := by decide +kernel
theorem dL_law_691 : decode cL_law 691 = .ok (.if_icmp .eq 673, 3) := by decide +kernel
theorem dL_law_694 : decode cL_law 694 = .ok (.iconst 0, 1) := by decide +kernel
theorem dL_law_695 : decode cL_law 695 = .ok (.ireturn, 1) := by decide +kernel
theorem dL_law_696 : decode cL_law 696 = .ok (.aload_n 1, 1) := by decide +kernel
theorem dL_law_697 : decode cL_law 697 = .ok (.aload_n 0, 1) := by decide +kernel
theorem dL_law_698 : decode cL_law 698 = .ok (.iload_n 3, 1) := by decide +kernel
theorem dL_law_699 : decode cL_law 699 = .ok (.iconst 1, 1) := by decide +kernel
theorem dL_law_700 : decode cL_law 700 = .ok (.iadd, 1) := by decide +kernel
theorem dL_law_701 : decode cL_law 701 = .ok (.iaload, 1) := by decide +kernel
theorem dL_law_702 : decode cL_law 702 = .ok (.aload_n 0, 1) := by decide +kernel
theorem dL_law_703 : decode cL_law 703 = .ok (.iload_n 3, 1) := by decide +kernel
theorem dL_law_704 : decode cL_law 704 = .ok (.iconst 2, 1) := by decide +kernel
theorem dL_law_705 : decode cL_law 705 = .ok (.iadd, 1) := by decide +kernel
theorem dL_law_706 : decode cL_law 706 = .ok (.iaload, 1) := by decide +kernel
theorem dL_law_707 : decode cL_law 707 = .ok (.invokevirtual 74, 3) := by decide +kernel
theorem dL_law_710 : decode cL_law 710 = .ok (.aload_n 2, 1) := by decide +kernel
theorem dL_law_711 : decode cL_law 711 = .ok (.aload_n 0, 1) := by decide +kernel
theorem dL_law_712 : decode cL_law 712 = .ok (.iload_n 3, 1) := by decide +kernel
theorem dL_law_713 : decode cL_law 713 = .ok (.iconst 1, 1) := by decide +kernel
theorem dL_law_714 : decode cL_law 714 = .ok (.iadd, 1) := by decide +kernel
theorem dL_law_715 : decode cL_law 715 = .ok (.iaload, 1) := by decide +kernel
theorem dL_law_716 : decode cL_law 716 = .ok (.aload_n 0, 1) := by decide +kernel
theorem dL_law_717 : decode cL_law 717 = .ok (.iload_n 3, 1) := by decide +kernel
theorem dL_law_718 : decode cL_law 718 = .ok (.iconst 2, 1) := by decide +kernel
theorem dL_law_719 : decode cL_law 719 = .ok (.iadd, 1) := by decide +kernel
theorem dL_law_720 : decode cL_law 720 = .ok (.iaload, 1) := by decide +kernel
theorem dL_law_721 : decode cL_law 721 = .ok (.invokevirtual 77, 3) := by decide +kernel
theorem dL_law_724 : decode cL_law 724 = .ok (.if_icmp .eq 640, 3) := by decide +kernel
theorem dL_law_727 : decode cL_law 727 = .ok (.iconst 0, 1) := by decide +kernel
theorem dL_law_728 : decode cL_law 728 = .ok (.ireturn, 1) := by decide +kernel
theorem dL_law_729 : decode cL_law 729 = .ok (.aload_n 1, 1) := by decide +kernel
theorem dL_law_730 : decode cL_law 730 = .ok (.aload_n 0, 1) := by decide +kernel
theorem dL_law_731 : decode cL_law 731 = .ok (.iload_n 3, 1) := by decide +kernel
theorem dL_law_732 : decode cL_law 732 = .ok (.iconst 1, 1) := by decide +kernel
theorem dL_law_733 : decode cL_law 733 = .ok (.iadd, 1) := by decide +kernel
theorem dL_law_734 : decode cL_law 734 = .ok (.iaload, 1) := by decide +kernel
theorem dL_law_735 : decode cL_law 735 = .ok (.aload_n 0, 1) := by decide +kernel
theorem dL_law_736 : decode cL_law 736 = .ok (.iload_n 3, 1) := by decide +kernel
theorem dL_law_737 : decode cL_law 737 = .ok (.iconst 2, 1) := by decide +kernel
theorem dL_law_738 : decode cL_law 738 = .ok (.iadd, 1) := by decide +kernel
theorem dL_law_739 : decode cL_law 739 = .ok (.iaload, 1) := by decide +kernel
theorem dL_law_740 : decode cL_law 740 = .ok (.invokevirtual 78, 3) := by decide +kernel
theorem dL_law_743 : decode cL_law 743 = .ok (.aload_n 2, 1) := by decide +kernel
theorem dL_law_744 : decode cL_law 744 = .ok (.aload_n 0, 1) := by decide +kernel
theorem dL_law_745 : decode cL_law 745 = .ok (.iload_n 3, 1) := by decide +kernel
theorem dL_law_746 : decode cL_law 746 = .ok (.iconst 1, 1) := by decide +kernel
theorem dL_law_747 : decode cL_law 747 = .ok (.iadd, 1) := by decide +kernel
theorem dL_law_748 : decode cL_law 748 = .ok (.iaload, 1) := by decide +kernel
theorem dL_law_749 : decode cL_law 749 = .ok (.aload_n 0, 1) := by decide +kernel
theorem dL_law_750 : decode cL_law 750 = .ok (.iload_n 3, 1) := by decide +kernel
theorem dL_law_751 : decode cL_law 751 = .ok (.iconst 2, 1) := by decide +kernel
theorem dL_law_752 : decode cL_law 752 = .ok (.iadd, 1) := by decide +kernel
theorem dL_law_753 : decode cL_law 753 = .ok (.iaload, 1) := by decide +kernel
theorem dL_law_754 : decode cL_law 754 = .ok (.invokevirtual 81, 3) := by decide +kernel
theorem dL_law_757 : decode cL_law 757 = .ok (.if_icmp .eq 607, 3) := by decide +kernel
theorem dL_law_760 : decode cL_law 760 = .ok (.iconst 0, 1) := by decide +kernel
theorem dL_law_761 : decode cL_law 761 = .ok (.ireturn, 1) := by decide +kernel
theorem dL_law_762 : decode cL_law 762 = .ok (.aload_n 1, 1) := by decide +kernel
theorem dL_law_763 : decode cL_law 763 = .ok (.aload_n 0, 1) := by decide +kernel
theorem dL_law_764 : decode cL_law 764 = .ok (.iload_n 3, 1) := by decide +kernel
theorem dL_law_765 : decode cL_law 765 = .ok (.iconst 1, 1) := by decide +kernel
theorem dL_law_766 : decode cL_law 766 = .ok (.iadd, 1) := by decide +kernel
theorem dL_law_767 : decode cL_law 767 = .ok (.iaload, 1) := by decide +kernel
theorem dL_law_768 : decode cL_law 768 = .ok (.invokevirtual 82, 3) := by decide +kernel
theorem dL_law_771 : decode cL_law 771 = .ok (.aload_n 2, 1) := by decide +kernel
theorem dL_law_772 : decode cL_law 772 = .ok (.aload_n 0, 1) := by decide +kernel
theorem dL_law_773 : decode cL_law 773 = .ok (.iload_n 3, 1) := by decide +kernel
theorem dL_law_774 : decode cL_law 774 = .ok (.iconst 1, 1) := by decide +kernel
theorem dL_law_775 : decode cL_law 775 = .ok (.iadd, 1) := by decide +kernel
theorem dL_law_776 : decode cL_law 776 = .ok (.iaload, 1) := by decide +kernel
theorem dL_law_777 : decode cL_law 777 = .ok (.invokevirtual 85, 3) := by decide +kernel
theorem dL_law_780 : decode cL_law 780 = .ok (.if_icmp .eq 584, 3) := by decide +kernel
theorem dL_law_783 : decode cL_law 783 = .ok (.iconst 0, 1) := by decide +kernel
theorem dL_law_784 : decode cL_law 784 = .ok (.ireturn, 1) := by decide +kernel
theorem dL_law_785 : decode cL_law 785 = .ok (.aload_n 1, 1) := by decide +kernel
theorem dL_law_786 : decode cL_law 786 = .ok (.aload_n 0, 1) := by decide +kernel
theorem dL_law_787 : decode cL_law 787 = .ok (.iload_n 3, 1) := by decide +kernel
theorem dL_law_788 : decode cL_law 788 = .ok (.iconst 1, 1) := by decide +kernel
theorem dL_law_789 : decode cL_law 789 = .ok (.iadd, 1) := by decide +kernel
theorem dL_law_790 : decode cL_law 790 = .ok (.iaload, 1) := by decide +kernel
theorem dL_law_791 : decode cL_law 791 = .ok (.invokevirtual 86, 3) := by decide +kernel
theorem dL_law_794 : decode cL_law 794 = .ok (.aload_n 2, 1) := by decide +kernel
theorem dL_law_795 : decode cL_law 795 = .ok (.aload_n 0, 1) := by decide +kernel
theorem dL_law_796 : decode cL_law 796 = .ok (.iload_n 3, 1) := by decide +kernel
theorem dL_law_797 : decode cL_law 797 = .ok (.iconst 1, 1) := by decide +kernel
theorem dL_law_798 : decode cL_law 798 = .ok (.iadd, 1) := by decide +kernel
theorem dL_law_799 : decode cL_law 799 = .ok (.iaload, 1) := by decide +kernel
theorem dL_law_800 : decode cL_law 800 = .ok (.invokevirtual 89, 3) := by decide +kernel
theorem dL_law_803 : decode cL_law 803 = .ok (.if_icmp .eq 561, 3) := by decide +kernel
theorem dL_law_806 : decode cL_law 806 = .ok (.iconst 0, 1) := by decide +kernel
theorem dL_law_807 : decode cL_law 807 = .ok (.ireturn, 1) := by decide +kernel
theorem dL_law_808 : decode cL_law 808 = .ok (.aload_n 1, 1) := by decide +kernel
theorem dL_law_809 : decode cL_law 809 = .ok (.invokevirtual 90, 3) := by decide +kernel
theorem dL_law_812 : decode cL_law 812 = .ok (.aload_n 2, 1) := by decide +kernel
theorem dL_law_813 : decode cL_law 813 = .ok (.invokevirtual 93, 3) := by decide +kernel
theorem dL_law_816 : decode cL_law 816 = .ok (.if_icmp .eq 548, 3) := by decide +kernel
theorem dL_law_819 : decode cL_law 819 = .ok (.iconst 0, 1) := by decide +kernel
theorem dL_law_820 : decode cL_law 820 = .ok (.ireturn, 1) := by decide +kernel
theorem dL_law_821 : decode cL_law 821 = .ok (.aload_n 1, 1) := by decide +kernel
theorem dL_law_822 : decode cL_law 822 = .ok (.aload_n 0, 1) := by decide +kernel
theorem dL_law_823 : decode cL_law 823 = .ok (.iload_n 3, 1) := by decide +kernel
theorem dL_law_824 : decode cL_law 824 = .ok (.iconst 1, 1) := by decide +kernel
theorem dL_law_825 : decode cL_law 825 = .ok (.iadd, 1) := by decide +kernel
theorem dL_law_826 : decode cL_law 826 = .ok (.iaload, 1) := by decide +kernel
theorem dL_law_827 : decode cL_law 827 = .ok (.invokevirtual 94, 3) := by decide +kernel
theorem dL_law_830 : decode cL_law 830 = .ok (.aload_n 2, 1) := by decide +kernel
theorem dL_law_831 : decode cL_law 831 = .ok (.aload_n 0, 1) := by decide +kernel
theorem dL_law_832 : decode cL_law 832 = .ok (.iload_n 3, 1) := by decide +kernel
theorem dL_law_833 : decode cL_law 833 = .ok (.iconst 1, 1) := by decide +kernel
theorem dL_law_834 : decode cL_law 834 = .ok (.iadd, 1) := by decide +kernel
theorem dL_law_835 : decode cL_law 835 = .ok (.iaload, 1) := by decide +kernel
theorem dL_law_836 : decode cL_law 836 = .ok (.invokevirtual 97, 3) := by decide +kernel
theorem dL_law_839 : decode cL_law 839 = .ok (.if_icmp .eq 525, 3) := by decide +kernel
theorem dL_law_842 : decode cL_law 842 = .ok (.iconst 0, 1) := by decide +kernel
theorem dL_law_843 : decode cL_law 843 = .ok (.ireturn, 1) := by decide +kernel
theorem dL_law_844 : decode cL_law 844 = .ok (.aload_n 1, 1) := by decide +kernel
theorem dL_law_845 : decode cL_law 845 = .ok (.invokevirtual 98, 3) := by decide +kernel
theorem dL_law_848 : decode cL_law 848 = .ok (.aload_n 2, 1) := by decide +kernel
theorem dL_law_849 : decode cL_law 849 = .ok (.invokevirtual 101, 3) := by decide +kernel
theorem dL_law_852 : decode cL_law 852 = .ok (.if_icmp .eq 512, 3) := by decide +kernel
theorem dL_law_855 : decode cL_law 855 = .ok (.iconst 0, 1) := by decide +kernel
theorem dL_law_856 : decode cL_law 856 = .ok (.ireturn, 1) := by decide +kernel
theorem dL_law_857 : decode cL_law 857 = .ok (.aload_n 1, 1) := by decide +kernel
theorem dL_law_858 : decode cL_law 858 = .ok (.aload_n 0, 1) := by decide +kernel
theorem dL_law_859 : decode cL_law 859 = .ok (.iload_n 3, 1) := by decide +kernel
theorem dL_law_860 : decode cL_law 860 = .ok (.iconst 1, 1) := by decide +kernel
theorem dL_law_861 : decode cL_law 861 = .ok (.iadd, 1) := by decide +kernel
theorem dL_law_862 : decode cL_law 862 = .ok (.iaload, 1) := by decide +kernel
theorem dL_law_863 : decode cL_law 863 = .ok (.invokevirtual 102, 3) := by decide +kernel
theorem dL_law_866 : decode cL_law 866 = .ok (.aload_n 2, 1) := by decide +kernel
theorem dL_law_867 : decode cL_law 867 = .ok (.aload_n 0, 1) := by decide +kernel
theorem dL_law_868 : decode cL_law 868 = .ok (.iload_n 3, 1) := by decide +kernel
theorem dL_law_869 : decode cL_law 869 = .ok (.iconst 1, 1) := by decide +kernel
theorem dL_law_870 : decode cL_law 870 = .ok (.iadd, 1) := by decide +kernel
theorem dL_law_871 : decode cL_law 871 = .ok (.iaload, 1) := by decide +kernel
theorem dL_law_872 : decode cL_law 872 = .ok (.invokevirtual 105, 3) := by decide +kernel
theorem dL_law_875 : decode cL_law 875 = .ok (.if_icmp .eq 489, 3) := by decide +kernel
theorem dL_law_878 : decode cL_law 878 = .ok (.iconst 0, 1) := by decide +kernel
theorem dL_law_879 : decode cL_law 879 = .ok (.ireturn, 1) := by decide +kernel
theorem dL_law_880 : decode cL_law 880 = .ok (.aload_n 1, 1) := by decide +kernel
theorem dL_law_881 : decode cL_law 881 = .ok (.aload_n 0, 1) := by decide +kernel
theorem dL_law_882 : decode cL_law 882 = .ok (.iload_n 3, 1) := by decide +kernel
theorem dL_law_883 : decode cL_law 883 = .ok (.iconst 1, 1) := by decide +kernel
theorem dL_law_884 : decode cL_law 884 = .ok (.iadd, 1) := by decide +kernel
theorem dL_law_885 : decode cL_law 885 = .ok (.iaload, 1) := by decide +kernel
theorem dL_law_886 : decode cL_law 886 = .ok (.invokevirtual 106, 3) := by decide +kernel
theorem dL_law_889 : decode cL_law 889 = .ok (.aload_n 2, 1) := by decide +kernel
theorem dL_law_890 : decode cL_law 890 = .ok (.aload_n 0, 1) := by decide +kernel
theorem dL_law_891 : decode cL_law 891 = .ok (.iload_n 3, 1) := by decide +kernel
theorem dL_law_892 : decode cL_law 892 = .ok (.iconst 1, 1) := by decide +kernel
theorem dL_law_893 : decode cL_law 893 = .ok (.iadd, 1) := by decide +kernel
theorem dL_law_894 : decode cL_law 894 = .ok (.iaload, 1) := by decide +kernel
theorem dL_law_895 : decode cL_law 895 = .ok (.invokevirtual 109, 3) := by decide +kernel
theorem dL_law_898 : decode cL_law 898 = .ok (.if_icmp .eq 466, 3) := by decide +kernel
theorem dL_law_901 : decode cL_law 901 = .ok (.iconst 0, 1) := by decide +kernel
theorem dL_law_902 : decode cL_law 902 = .ok (.ireturn, 1) := by decide +kernel
theorem dL_law_903 : decode cL_law 903 = .ok (.aload_n 1, 1) := by decide +kernel
theorem dL_law_904 : decode cL_law 904 = .ok (.aload_n 0, 1) := by decide +kernel
theorem dL_law_905 : decode cL_law 905 = .ok (.iload_n 3, 1) := by decide +kernel
theorem dL_law_906 : decode cL_law 906 = .ok (.iconst 1, 1) := by decide +kernel
theorem dL_law_907 : decode cL_law 907 = .ok (.iadd, 1) := by decide +kernel
theorem dL_law_908 : decode cL_law 908 = .ok (.iaload, 1) := by decide +kernel
theorem dL_law_909 : decode cL_law 909 = .ok (.invokevirtual 110, 3) := by decide +kernel
theorem dL_law_912 : decode cL_law 912 = .ok (.aload_n 2, 1) := by decide +kernel
theorem dL_law_913 : decode cL_law 913 = .ok (.aload_n 0, 1) := by decide +kernel
theorem dL_law_914 : decode cL_law 914 = .ok (.iload_n 3, 1) := by decide +kernel
theorem dL_law_915 : decode cL_law 915 = .ok (.iconst 1, 1) := by decide +kernel
theorem dL_law_916 : decode cL_law 916 = .ok (.iadd, 1) := by decide +kernel
theorem dL_law_917 : decode cL_law 917 = .ok (.iaload, 1) := by decide +kernel
theorem dL_law_918 : decode cL_law 918 = .ok (.invokevirtual 113, 3) := by decide +kernel
theorem dL_law_921 : decode cL_law 921 = .ok (.if_icmp .eq 443, 3) := by decide +kernel
theorem dL_law_924 : decode cL_law 924 = .ok (.iconst 0, 1) := by decide +kernel
theorem dL_law_925 : decode cL_law 925 = .ok (.ireturn, 1) := by decide +kernel
theorem dL_law_926 : decode cL_law 926 = .ok (.aload_n 1, 1) := by decide +kernel
theorem dL_law_927 : decode cL_law 927 = .ok (.invokevirtual 114, 3) := by decide +kernel
theorem dL_law_930 : decode cL_law 930 = .ok (.aload_n 2, 1) := by decide +kernel
theorem dL_law_931 : decode cL_law 931 = .ok (.invokevirtual 117, 3) := by decide +kernel
theorem dL_law_934 : decode cL_law 934 = .ok (.if_icmp .eq 430, 3) := by decide +kernel
theorem dL_law_937 : decode cL_law 937 = .ok (.iconst 0, 1) := by decide +kernel
theorem dL_law_938 : decode cL_law 938 = .ok (.ireturn, 1) := by decide +kernel
theorem dL_law_939 : decode cL_law 939 = .ok (.aload_n 1, 1) := by decide +kernel
theorem dL_law_940 : decode cL_law 940 = .ok (.aload_n 0, 1) := by decide +kernel
theorem dL_law_941 : decode cL_law 941 = .ok (.iload_n 3, 1) := by decide +kernel
theorem dL_law_942 : decode cL_law 942 = .ok (.iconst 1, 1) := by decide +kernel
theorem dL_law_943 : decode cL_law 943 = .ok (.iadd, 1) := by decide +kernel
theorem dL_law_944 : decode cL_law 944 = .ok (.iaload, 1) := by decide +kernel
theorem dL_law_945 : decode cL_law 945 = .ok (.invokevirtual 118, 3) := by decide +kernel
theorem dL_law_948 : decode cL_law 948 = .ok (.aload_n 2, 1) := by decide +kernel
theorem dL_law_949 : decode cL_law 949 = .ok (.aload_n 0, 1) := by decide +kernel
theorem dL_law_950 : decode cL_law 950 = .ok (.iload_n 3, 1) := by decide +kernel
theorem dL_law_951 : decode cL_law 951 = .ok (.iconst 1, 1) := by decide +kernel
theorem dL_law_952 : decode cL_law 952 = .ok (.iadd, 1) := by decide +kernel
theorem dL_law_953 : decode cL_law 953 = .ok (.iaload, 1) := by decide +kernel
theorem dL_law_954 : decode cL_law 954 = .ok (.invokevirtual 121, 3) := by decide +kernel
theorem dL_law_957 : decode cL_law 957 = .ok (.if_icmp .eq 407, 3) := by decide +kernel
theorem dL_law_960 : decode cL_law 960 = .ok (.iconst 0, 1) := by decide +kernel
theorem dL_law_961 : decode cL_law 961 = .ok (.ireturn, 1) := by decide +kernel
theorem dL_law_962 : decode cL_law 962 = .ok (.aload_n 1, 1) := by decide +kernel
theorem dL_law_963 : decode cL_law 963 = .ok (.aload_n 0, 1) := by decide +kernel
theorem dL_law_964 : decode cL_law 964 = .ok (.iload_n 3, 1) := by decide +kernel
theorem dL_law_965 : decode cL_law 965 = .ok (.iconst 1, 1) := by decide +kernel
theorem dL_law_966 : decode cL_law 966 = .ok (.iadd, 1) := by decide +kernel
theorem dL_law_967 : decode cL_law 967 = .ok (.iaload, 1) := by decide +kernel
theorem dL_law_968 : decode cL_law 968 = .ok (.invokevirtual 122, 3) := by decide +kernel
theorem dL_law_971 : decode cL_law 971 = .ok (.aload_n 2, 1) := by decide +kernel
theorem dL_law_972 : decode cL_law 972 = .ok (.aload_n 0, 1) := by decide +kernel
theorem dL_law_973 : decode cL_law 973 = .ok (.iload_n 3, 1) := by decide +kernel
theorem dL_law_974 : decode cL_law 974 = .ok (.iconst 1, 1) := by decide +kernel
theorem dL_law_975 : decode cL_law 975 = .ok (.iadd, 1) := by decide +kernel
theorem dL_law_976 : decode cL_law 976 = .ok (.iaload, 1) := by decide +kernel
theorem dL_law_977 : decode cL_law 977 = .ok (.invokevirtual 125, 3) := by decide +kernel
theorem dL_law_980 : decode cL_law 980 = .ok (.if_icmp .eq 384, 3) := by decide +kernel
theorem dL_law_983 : decode cL_law 983 = .ok (.iconst 0, 1) := by decide +kernel
theorem dL_law_984 : decode cL_law 984 = .ok (.ireturn, 1) := by decide +kernel
theorem dL_law_985 : decode cL_law 985 = .ok (.aload_n 1, 1) := by decide +kernel
theorem dL_law_986 : decode cL_law 986 = .ok (.invokevirtual 126, 3) := by decide +kernel
theorem dL_law_989 : decode cL_law 989 = .ok (.aload_n 2, 1) := by decide +kernel
theorem dL_law_990 : decode cL_law 990 = .ok (.invokevirtual 129, 3) := by decide +kernel
theorem dL_law_993 : decode cL_law 993 = .ok (.if_icmp .eq 371, 3) := by decide +kernel
theorem dL_law_996 : decode cL_law 996 = .ok (.iconst 0, 1) := by decide +kernel
theorem dL_law_997 : decode cL_law 997 = .ok (.ireturn, 1) := by decide +kernel
theorem dL_law_998 : decode cL_law 998 = .ok (.aload_n 1, 1) := by decide +kernel
theorem dL_law_999 : decode cL_law 999 = .ok (.invokevirtual 130, 3) := by decide +kernel
theorem dL_law_1002 : decode cL_law 1002 = .ok (.aload_n 2, 1) := by decide +kernel
theorem dL_law_1003 : decode cL_law 1003 = .ok (.invokevirtual 133, 3) := by decide +kernel
theorem dL_law_1006 : decode cL_law 1006 = .ok (.if_icmp .eq 358, 3) := by decide +kernel
theorem dL_law_1009 : decode cL_law 1009 = .ok (.iconst 0, 1) := by decide +kernel
theorem dL_law_1010 : decode cL_law 1010 = .ok (.ireturn, 1) := by decide +kernel
theorem dL_law_1011 : decode cL_law 1011 = .ok (.aload_n 1, 1) := by decide +kernel
theorem dL_law_1012 : decode cL_law 1012 = .ok (.invokevirtual 134, 3) := by decide +kernel
theorem dL_law_1015 : decode cL_law 1015 = .ok (.aload_n 2, 1) := by decide +kernel
theorem dL_law_1016 : decode cL_law 1016 = .ok (.invokevirtual 137, 3) := by decide +kernel
theorem dL_law_1019 : decode cL_law 1019 = .ok (.if_icmp .eq 345, 3) := by decide +kernel
theorem dL_law_1022 : decode cL_law 1022 = .ok (.iconst 0, 1) := by decide +kernel
theorem dL_law_1023 : decode cL_law 1023 = .ok (.ireturn, 1) := by decide +kernel
theorem dL_law_1024 : decode cL_law 1024 = .ok (.aload_n 1, 1) := by decide +kernel
theorem dL_law_1025 : decode cL_law 1025 = .ok (.aload_n 0, 1) := by decide +kernel
theorem dL_law_1026 : decode cL_law 1026 = .ok (.iload_n 3, 1) := by decide +kernel
theorem dL_law_1027 : decode cL_law 1027 = .ok (.iconst 1, 1) := by decide +kernel
theorem dL_law_1028 : decode cL_law 1028 = .ok (.iadd, 1) := by decide +kernel
theorem dL_law_1029 : decode cL_law 1029 = .ok (.iaload, 1) := by decide +kernel
theorem dL_law_1030 : decode cL_law 1030 = .ok (.invokevirtual 138, 3) := by decide +kernel
theorem dL_law_1033 : decode cL_law 1033 = .ok (.aload_n 2, 1) := by decide +kernel
theorem dL_law_1034 : decode cL_law 1034 = .ok (.aload_n 0, 1) := by decide +kernel
theorem dL_law_1035 : decode cL_law 1035 = .ok (.iload_n 3, 1) := by decide +kernel
theorem dL_law_1036 : decode cL_law 1036 = .ok (.iconst 1, 1) := by decide +kernel
theorem dL_law_1037 : decode cL_law 1037 = .ok (.iadd, 1) := by decide +kernel
theorem dL_law_1038 : decode cL_law 1038 = .ok (.iaload, 1) := by decide +kernel
theorem dL_law_1039 : decode cL_law 1039 = .ok (.invokevirtual 141, 3) := by decide +kernel
theorem dL_law_1042 : decode cL_law 1042 = .ok (.if_icmp .eq 322, 3) := by decide +kernel
theorem dL_law_1045 : decode cL_law 1045 = .ok (.iconst 0, 1) := by decide +kernel
theorem dL_law_1046 : decode cL_law 1046 = .ok (.ireturn, 1) := by decide +kernel
theorem dL_law_1047 : decode cL_law 1047 = .ok (.aload_n 1, 1) := by decide +kernel
theorem dL_law_1048 : decode cL_law 1048 = .ok (.invokevirtual 142, 3) := by decide +kernel
theorem dL_law_1051 : decode cL_law 1051 = .ok (.aload_n 2, 1) := by decide +kernel
theorem dL_law_1052 : decode cL_law 1052 = .ok (.invokevirtual 145, 3) := by decide +kernel
theorem dL_law_1055 : decode cL_law 1055 = .ok (.if_icmp .eq 309, 3) := by decide +kernel
theorem dL_law_1058 : decode cL_law 1058 = .ok (.iconst 0, 1) := by decide +kernel
theorem dL_law_1059 : decode cL_law 1059 = .ok (.ireturn, 1) := by decide +kernel
theorem dL_law_1060 : decode cL_law 1060 = .ok (.aload_n 1, 1) := by decide +kernel
theorem dL_law_1061 : decode cL_law 1061 = .ok (.aload_n 0, 1) := by decide +kernel
theorem dL_law_1062 : decode cL_law 1062 = .ok (.iload_n 3, 1) := by decide +kernel
theorem dL_law_1063 : decode cL_law 1063 = .ok (.iconst 1, 1) := by decide +kernel
theorem dL_law_1064 : decode cL_law 1064 = .ok (.iadd, 1) := by decide +kernel
theorem dL_law_1065 : decode cL_law 1065 = .ok (.iaload, 1) := by decide +kernel
theorem dL_law_1066 : decode cL_law 1066 = .ok (.aload_n 0, 1) := by decide +kernel
theorem dL_law_1067 : decode cL_law 1067 = .ok (.iload_n 3, 1) := by decide +kernel
theorem dL_law_1068 : decode cL_law 1068 = .ok (.iconst 2, 1) := by decide +kernel
theorem dL_law_1069 : decode cL_law 1069 = .ok (.iadd, 1) := by decide +kernel
theorem dL_law_1070 : decode cL_law 1070 = .ok (.iaload, 1) := by decide +kernel
theorem dL_law_1071 : decode cL_law 1071 = .ok (.invokevirtual 146, 3) := by decide +kernel
theorem dL_law_1074 : decode cL_law 1074 = .ok (.aload_n 2, 1) := by decide +kernel
theorem dL_law_1075 : decode cL_law 1075 = .ok (.aload_n 0, 1) := by decide +kernel
theorem dL_law_1076 : decode cL_law 1076 = .ok (.iload_n 3, 1) := by decide +kernel
theorem dL_law_1077 : decode cL_law 1077 = .ok (.iconst 1, 1) := by decide +kernel
theorem dL_law_1078 : decode cL_law 1078 = .ok (.iadd, 1) := by decide +kernel
theorem dL_law_1079 : decode cL_law 1079 = .ok (.iaload, 1) := by decide +kernel
theorem dL_law_1080 : decode cL_law 1080 = .ok (.aload_n 0, 1) := by decide +kernel
theorem dL_law_1081 : decode cL_law 1081 = .ok (.iload_n 3, 1) := by decide +kernel
theorem dL_law_1082 : decode cL_law 1082 = .ok (.iconst 2, 1) := by decide +kernel
theorem dL_law_1083 : decode cL_law 1083 = .ok (.iadd, 1) := by decide +kernel
theorem dL_law_1084 : decode cL_law 1084 = .ok (.iaload, 1) := by decide +kernel
theorem dL_law_1085 : decode cL_law 1085 = .ok (.invokevirtual 149, 3) := by decide +kernel
theorem dL_law_1088 : decode cL_law 1088 = .ok (.if_icmp .eq 276, 3) := by decide +kernel
theorem dL_law_1091 : decode cL_law 1091 = .ok (.iconst 0, 1) := by decide +kernel
theorem dL_law_1092 : decode cL_law 1092 = .ok (.ireturn, 1) := by decide +kernel
theorem dL_law_1093 : decode cL_law 1093 = .ok (.aload_n 1, 1) := by decide +kernel
theorem dL_law_1094 : decode cL_law 1094 = .ok (.invokevirtual 150, 3) := by decide +kernel
theorem dL_law_1097 : decode cL_law 1097 = .ok (.aload_n 2, 1) := by decide +kernel
theorem dL_law_1098 : decode cL_law 1098 = .ok (.invokevirtual 153, 3) := by decide +kernel
theorem dL_law_1101 : decode cL_law 1101 = .ok (.if_icmp .eq 263, 3) := by decide +kernel
theorem dL_law_1104 : decode cL_law 1104 = .ok (.iconst 0, 1) := by decide +kernel
theorem dL_law_1105 : decode cL_law 1105 = .ok (.ireturn, 1) := by decide +kernel
theorem dL_law_1106 : decode cL_law 1106 = .ok (.aload_n 1, 1) := by decide +kernel
theorem dL_law_1107 : decode cL_law 1107 = .ok (.invokevirtual 154, 3) := by decide +kernel
theorem dL_law_1110 : decode cL_law 1110 = .ok (.aload_n 2, 1) := by decide +kernel
theorem dL_law_1111 : decode cL_law 1111 = .ok (.invokevirtual 157, 3) := by decide +kernel
theorem dL_law_1114 : decode cL_law 1114 = .ok (.if_icmp .eq 250, 3) := by decide +kernel
theorem dL_law_1117 : decode cL_law 1117 = .ok (.iconst 0, 1) := by decide +kernel
theorem dL_law_1118 : decode cL_law 1118 = .ok (.ireturn, 1) := by decide +kernel
theorem dL_law_1119 : decode cL_law 1119 = .ok (.aload_n 1, 1) := by decide +kernel
theorem dL_law_1120 : decode cL_law 1120 = .ok (.aload_n 0, 1) := by decide +kernel
theorem dL_law_1121 : decode cL_law 1121 = .ok (.iload_n 3, 1) := by decide +kernel
theorem dL_law_1122 : decode cL_law 1122 = .ok (.iconst 1, 1) := by decide +kernel
theorem dL_law_1123 : decode cL_law 1123 = .ok (.iadd, 1) := by decide +kernel
theorem dL_law_1124 : decode cL_law 1124 = .ok (.iaload, 1) := by decide +kernel
theorem dL_law_1125 : decode cL_law 1125 = .ok (.invokevirtual 158, 3) := by decide +kernel
theorem dL_law_1128 : decode cL_law 1128 = .ok (.aload_n 2, 1) := by decide +kernel
theorem dL_law_1129 : decode cL_law 1129 = .ok (.aload_n 0, 1) := by decide +kernel
theorem dL_law_1130 : decode cL_law 1130 = .ok (.iload_n 3, 1) := by decide +kernel
theorem dL_law_1131 : decode cL_law 1131 = .ok (.iconst 1, 1) := by decide +kernel
theorem dL_law_1132 : decode cL_law 1132 = .ok (.iadd, 1) := by decide +kernel
theorem dL_law_1133 : decode cL_law 1133 = .ok (.iaload, 1) := by decide +kernel
theorem dL_law_1134 : decode cL_law 1134 = .ok (.invokevirtual 161, 3) := by decide +kernel
theorem dL_law_1137 : decode cL_law 1137 = .ok (.if_icmp .eq 227, 3) := by decide +kernel
theorem dL_law_1140 : decode cL_law 1140 = .ok (.iconst 0, 1) := by decide +kernel
theorem dL_law_1141 : decode cL_law 1141 = .ok (.ireturn, 1) := by decide +kernel
theorem dL_law_1142 : decode cL_law 1142 = .ok (.aload_n 1, 1) := by decide +kernel
theorem dL_law_1143 : decode cL_law 1143 = .ok (.invokevirtual 162, 3) := by decide +kernel
theorem dL_law_1146 : decode cL_law 1146 = .ok (.aload_n 2, 1) := by decide +kernel
theorem dL_law_1147 : decode cL_law 1147 = .ok (.invokevirtual 165, 3) := by decide +kernel
theorem dL_law_1150 : decode cL_law 1150 = .ok (.if_icmp .eq 214, 3) := by decide +kernel
theorem dL_law_1153 : decode cL_law 1153 = .ok (.iconst 0, 1) := by decide +kernel
theorem dL_law_1154 : decode cL_law 1154 = .ok (.ireturn, 1) := by decide +kernel
theorem dL_law_1155 : decode cL_law 1155 = .ok (.aload_n 1, 1) := by decide +kernel
theorem dL_law_1156 : decode cL_law 1156 = .ok (.aload_n 0, 1) := by decide +kernel
theorem dL_law_1157 : decode cL_law 1157 = .ok (.iload_n 3, 1) := by decide +kernel
theorem dL_law_1158 : decode cL_law 1158 = .ok (.iconst 1, 1) := by decide +kernel
theorem dL_law_1159 : decode cL_law 1159 = .ok (.iadd, 1) := by decide +kernel
theorem dL_law_1160 : decode cL_law 1160 = .ok (.iaload, 1) := by decide +kernel
theorem dL_law_1161 : decode cL_law 1161 = .ok (.invokevirtual 166, 3) := by decide +kernel
theorem dL_law_1164 : decode cL_law 1164 = .ok (.aload_n 2, 1) := by decide +kernel
theorem dL_law_1165 : decode cL_law 1165 = .ok (.aload_n 0, 1) := by decide +kernel
theorem dL_law_1166 : decode cL_law 1166 = .ok (.iload_n 3, 1) := by decide +kernel
theorem dL_law_1167 : decode cL_law 1167 = .ok (.iconst 1, 1) := by decide +kernel
theorem dL_law_1168 : decode cL_law 1168 = .ok (.iadd, 1) := by decide +kernel
theorem dL_law_1169 : decode cL_law 1169 = .ok (.iaload, 1) := by decide +kernel
theorem dL_law_1170 : decode cL_law 1170 = .ok (.invokevirtual 169, 3) := by decide +kernel
theorem dL_law_1173 : decode cL_law 1173 = .ok (.if_icmp .eq 191, 3) := by decide +kernel
theorem dL_law_1176 : decode cL_law 1176 = .ok (.iconst 0, 1) := by decide +kernel
theorem dL_law_1177 : decode cL_law 1177 = .ok (.ireturn, 1) := by decide +kernel
theorem dL_law_1178 : decode cL_law 1178 = .ok (.aload_n 1, 1) := by decide +kernel
theorem dL_law_1179 : decode cL_law 1179 = .ok (.invokevirtual 170, 3) := by decide +kernel
theorem dL_law_1182 : decode cL_law 1182 = .ok (.aload_n 2, 1) := by decide +kernel
theorem dL_law_1183 : decode cL_law 1183 = .ok (.invokevirtual 173, 3) := by decide +kernel
theorem dL_law_1186 : decode cL_law 1186 = .ok (.if_icmp .eq 178, 3) := by decide +kernel
theorem dL_law_1189 : decode cL_law 1189 = .ok (.iconst 0, 1) := by decide +kernel
theorem dL_law_1190 : decode cL_law 1190 = .ok (.ireturn, 1) := by decide +kernel
theorem dL_law_1191 : decode cL_law 1191 = .ok (.aload_n 1, 1) := by decide +kernel
theorem dL_law_1192 : decode cL_law 1192 = .ok (.invokevirtual 174, 3) := by decide +kernel
theorem dL_law_1195 : decode cL_law 1195 = .ok (.aload_n 2, 1) := by decide +kernel
theorem dL_law_1196 : decode cL_law 1196 = .ok (.invokevirtual 177, 3) := by decide +kernel
theorem dL_law_1199 : decode cL_law 1199 = .ok (.if_icmp .eq 165, 3) := by decide +kernel
theorem dL_law_1202 : decode cL_law 1202 = .ok (.iconst 0, 1) := by decide +kernel
theorem dL_law_1203 : decode cL_law 1203 = .ok (.ireturn, 1) := by decide +kernel
theorem dL_law_1204 : decode cL_law 1204 = .ok (.aload_n 1, 1) := by decide +kernel
theorem dL_law_1205 : decode cL_law 1205 = .ok (.invokevirtual 178, 3) := by decide +kernel
theorem dL_law_1208 : decode cL_law 1208 = .ok (.aload_n 2, 1) := by decide +kernel
theorem dL_law_1209 : decode cL_law 1209 = .ok (.invokevirtual 181, 3) := by decide +kernel
theorem dL_law_1212 : decode cL_law 1212 = .ok (.if_icmp .eq 152, 3) := by decide +kernel
theorem dL_law_1215 : decode cL_law 1215 = .ok (.iconst 0, 1) := by decide +kernel
theorem dL_law_1216 : decode cL_law 1216 = .ok (.ireturn, 1) := by decide +kernel
theorem dL_law_1217 : decode cL_law 1217 = .ok (.aload_n 1, 1) := by decide +kernel
theorem dL_law_1218 : decode cL_law 1218 = .ok (.aload_n 0, 1) := by decide +kernel
theorem dL_law_1219 : decode cL_law 1219 = .ok (.iload_n 3, 1) := by decide +kernel
theorem dL_law_1220 : decode cL_law 1220 = .ok (.iconst 1, 1) := by decide +kernel
theorem dL_law_1221 : decode cL_law 1221 = .ok (.iadd, 1) := by decide +kernel
theorem dL_law_1222 : decode cL_law 1222 = .ok (.iaload, 1) := by decide +kernel
theorem dL_law_1223 : decode cL_law 1223 = .ok (.aload_n 0, 1) := by decide +kernel
theorem dL_law_1224 : decode cL_law 1224 = .ok (.iload_n 3, 1) := by decide +kernel
theorem dL_law_1225 : decode cL_law 1225 = .ok (.iconst 2, 1) := by decide +kernel
theorem dL_law_1226 : decode cL_law 1226 = .ok (.iadd, 1) := by decide +kernel
theorem dL_law_1227 : decode cL_law 1227 = .ok (.iaload, 1) := by decide +kernel
theorem dL_law_1228 : decode cL_law 1228 = .ok (.invokevirtual 182, 3) := by decide +kernel
theorem dL_law_1231 : decode cL_law 1231 = .ok (.aload_n 2, 1) := by decide +kernel
theorem dL_law_1232 : decode cL_law 1232 = .ok (.aload_n 0, 1) := by decide +kernel
theorem dL_law_1233 : decode cL_law 1233 = .ok (.iload_n 3, 1) := by decide +kernel
theorem dL_law_1234 : decode cL_law 1234 = .ok (.iconst 1, 1) := by decide +kernel
theorem dL_law_1235 : decode cL_law 1235 = .ok (.iadd, 1) := by decide +kernel
theorem dL_law_1236 : decode cL_law 1236 = .ok (.iaload, 1) := by decide +kernel
theorem dL_law_1237 : decode cL_law 1237 = .ok (.aload_n 0, 1) := by decide +kernel
theorem dL_law_1238 : decode cL_law 1238 = .ok (.iload_n 3, 1) := by decide +kernel
theorem dL_law_1239 : decode cL_law 1239 = .ok (.iconst 2, 1) := by decide +kernel
theorem dL_law_1240 : decode cL_law 1240 = .ok (.iadd, 1) := by decide +kernel
theorem dL_law_1241 : decode cL_law 1241 = .ok (.iaload, 1) := by decide +kernel
theorem dL_law_1242 : decode cL_law 1242 = .ok (.invokevirtual 185, 3) := by decide +kernel
theorem dL_law_1245 : decode cL_law 1245 = .ok (.if_icmp .eq 119, 3) := by decide +kernel
theorem dL_law_1248 : decode cL_law 1248 = .ok (.iconst 0, 1) := by decide +kernel
theorem dL_law_1249 : decode cL_law 1249 = .ok (.ireturn, 1) := by decide +kernel
theorem dL_law_1250 : decode cL_law 1250 = .ok (.aload_n 1, 1) := by decide +kernel
theorem dL_law_1251 : decode cL_law 1251 = .ok (.invokevirtual 186, 3) := by decide +kernel
theorem dL_law_1254 : decode cL_law 1254 = .ok (.aload_n 2, 1) := by decide +kernel
theorem dL_law_1255 : decode cL_law 1255 = .ok (.invokevirtual 189, 3) := by decide +kernel
theorem dL_law_1258 : decode cL_law 1258 = .ok (.if_icmp .eq 106, 3) := by decide +kernel
theorem dL_law_1261 : decode cL_law 1261 = .ok (.iconst 0, 1) := by decide +kernel
theorem dL_law_1262 : decode cL_law 1262 = .ok (.ireturn, 1) := by decide +kernel
theorem dL_law_1263 : decode cL_law 1263 = .ok (.aload_n 1, 1) := by decide +kernel
theorem dL_law_1264 : decode cL_law 1264 = .ok (.invokevirtual 190, 3) := by decide +kernel
theorem dL_law_1267 : decode cL_law 1267 = .ok (.aload_n 2, 1) := by decide +kernel
theorem dL_law_1268 : decode cL_law 1268 = .ok (.invokevirtual 194, 3) := by decide +kernel
theorem dL_law_1271 : decode cL_law 1271 = .ok (.lcmp, 1) := by decide +kernel
theorem dL_law_1272 : decode cL_law 1272 = .ok (.ifCond .eq 92, 3) := by decide +kernel
theorem dL_law_1275 : decode cL_law 1275 = .ok (.iconst 0, 1) := by decide +kernel
theorem dL_law_1276 : decode cL_law 1276 = .ok (.ireturn, 1) := by decide +kernel
theorem dL_law_1277 : decode cL_law 1277 = .ok (.aload_n 1, 1) := by decide +kernel
theorem dL_law_1278 : decode cL_law 1278 = .ok (.invokevirtual 195, 3) := by decide +kernel
theorem dL_law_1281 : decode cL_law 1281 = .ok (.aload_n 2, 1) := by decide +kernel
theorem dL_law_1282 : decode cL_law 1282 = .ok (.invokevirtual 198, 3) := by decide +kernel
theorem dL_law_1285 : decode cL_law 1285 = .ok (.lcmp, 1) := by decide +kernel
theorem dL_law_1286 : decode cL_law 1286 = .ok (.ifCond .eq 78, 3) := by decide +kernel
theorem dL_law_1289 : decode cL_law 1289 = .ok (.iconst 0, 1) := by decide +kernel
theorem dL_law_1290 : decode cL_law 1290 = .ok (.ireturn, 1) := by decide +kernel
theorem dL_law_1291 : decode cL_law 1291 = .ok (.aload_n 1, 1) := by decide +kernel
theorem dL_law_1292 : decode cL_law 1292 = .ok (.aload_n 0, 1) := by decide +kernel
theorem dL_law_1293 : decode cL_law 1293 = .ok (.iload_n 3, 1) := by decide +kernel
theorem dL_law_1294 : decode cL_law 1294 = .ok (.iconst 1, 1) := by decide +kernel
theorem dL_law_1295 : decode cL_law 1295 = .ok (.iadd, 1) := by decide +kernel
theorem dL_law_1296 : decode cL_law 1296 = .ok (.iaload, 1) := by decide +kernel
theorem dL_law_1297 : decode cL_law 1297 = .ok (.invokevirtual 199, 3) := by decide +kernel
theorem dL_law_1300 : decode cL_law 1300 = .ok (.aload_n 2, 1) := by decide +kernel
theorem dL_law_1301 : decode cL_law 1301 = .ok (.aload_n 0, 1) := by decide +kernel
theorem dL_law_1302 : decode cL_law 1302 = .ok (.iload_n 3, 1) := by decide +kernel
theorem dL_law_1303 : decode cL_law 1303 = .ok (.iconst 1, 1) := by decide +kernel
theorem dL_law_1304 : decode cL_law 1304 = .ok (.iadd, 1) := by decide +kernel
theorem dL_law_1305 : decode cL_law 1305 = .ok (.iaload, 1) := by decide +kernel
theorem dL_law_1306 : decode cL_law 1306 = .ok (.invokevirtual 202, 3) := by decide +kernel
theorem dL_law_1309 : decode cL_law 1309 = .ok (.if_icmp .eq 55, 3) := by decide +kernel
theorem dL_law_1312 : decode cL_law 1312 = .ok (.iconst 0, 1) := by decide +kernel
theorem dL_law_1313 : decode cL_law 1313 = .ok (.ireturn, 1) := by decide +kernel
theorem dL_law_1314 : decode cL_law 1314 = .ok (.aload_n 1, 1) := by decide +kernel
theorem dL_law_1315 : decode cL_law 1315 = .ok (.invokevirtual 203, 3) := by decide +kernel
theorem dL_law_1318 : decode cL_law 1318 = .ok (.aload_n 2, 1) := by decide +kernel
theorem dL_law_1319 : decode cL_law 1319 = .ok (.invokevirtual 206, 3) := by decide +kernel
theorem dL_law_1322 : decode cL_law 1322 = .ok (.if_icmp .eq 42, 3) := by decide +kernel
theorem dL_law_1325 : decode cL_law 1325 = .ok (.iconst 0, 1) := by decide +kernel
theorem dL_law_1326 : decode cL_law 1326 = .ok (.ireturn, 1) := by decide +kernel
theorem dL_law_1327 : decode cL_law 1327 = .ok (.aload_n 1, 1) := by decide +kernel
theorem dL_law_1328 : decode cL_law 1328 = .ok (.aload_n 0, 1) := by decide +kernel
theorem dL_law_1329 : decode cL_law 1329 = .ok (.iload_n 3, 1) := by decide +kernel
theorem dL_law_1330 : decode cL_law 1330 = .ok (.iconst 1, 1) := by decide +kernel
theorem dL_law_1331 : decode cL_law 1331 = .ok (.iadd, 1) := by decide +kernel
theorem dL_law_1332 : decode cL_law 1332 = .ok (.iaload, 1) := by decide +kernel
theorem dL_law_1333 : decode cL_law 1333 = .ok (.invokevirtual 207, 3) := by decide +kernel
theorem dL_law_1336 : decode cL_law 1336 = .ok (.aload_n 2, 1) := by decide +kernel
theorem dL_law_1337 : decode cL_law 1337 = .ok (.aload_n 0, 1) := by decide +kernel
theorem dL_law_1338 : decode cL_law 1338 = .ok (.iload_n 3, 1) := by decide +kernel
theorem dL_law_1339 : decode cL_law 1339 = .ok (.iconst 1, 1) := by decide +kernel
theorem dL_law_1340 : decode cL_law 1340 = .ok (.iadd, 1) := by decide +kernel
theorem dL_law_1341 : decode cL_law 1341 = .ok (.iaload, 1) := by decide +kernel
theorem dL_law_1342 : decode cL_law 1342 = .ok (.invokevirtual 210, 3) := by decide +kernel
theorem dL_law_1345 : decode cL_law 1345 = .ok (.if_icmp .eq 19, 3) := by decide +kernel
theorem dL_law_1348 : decode cL_law 1348 = .ok (.iconst 0, 1) := by decide +kernel
theorem dL_law_1349 : decode cL_law 1349 = .ok (.ireturn, 1) := by decide +kernel
theorem dL_law_1350 : decode cL_law 1350 = .ok (.aload_n 1, 1) := by decide +kernel
theorem dL_law_1351 : decode cL_law 1351 = .ok (.invokevirtual 211, 3) := by decide +kernel
theorem dL_law_1354 : decode cL_law 1354 = .ok (.aload_n 2, 1) := by decide +kernel
theorem dL_law_1355 : decode cL_law 1355 = .ok (.invokevirtual 214, 3) := by decide +kernel
theorem dL_law_1358 : decode cL_law 1358 = .ok (.lcmp, 1) := by decide +kernel
theorem dL_law_1359 : decode cL_law 1359 = .ok (.ifCond .eq 5, 3) := by decide +kernel
theorem dL_law_1362 : decode cL_law 1362 = .ok (.iconst 0, 1) := by decide +kernel
theorem dL_law_1363 : decode cL_law 1363 = .ok (.ireturn, 1) := by decide +kernel
theorem dL_law_1364 : decode cL_law 1364 = .ok (.iinc 3 6, 3) := by decide +kernel
theorem dL_law_1367 : decode cL_law 1367 = .ok (.goto (-1349), 3) := by decide +kernel
theorem dL_law_1370 : decode cL_law 1370 = .ok (.iconst 1, 1) := by decide +kernel
theorem dL_law_1371 : decode cL_law 1371 = .ok (.ireturn, 1) := by decide +kernel
