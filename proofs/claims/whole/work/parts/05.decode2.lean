theorem zd_PA_arcsOutward_0 : decode zc_PA_arcsOutward 0 = .ok (.aload_n 0, 1) := by decide +kernel
theorem zd_PA_arcsOutward_1 : decode zc_PA_arcsOutward 1 = .ok (.iload_n 1, 1) := by decide +kernel
theorem zd_PA_arcsOutward_2 : decode zc_PA_arcsOutward 2 = .ok (.iconst 0, 1) := by decide +kernel
theorem zd_PA_arcsOutward_3 : decode zc_PA_arcsOutward 3 = .ok (.invokevirtual 95, 3) := by decide +kernel
theorem zd_PA_arcsOutward_6 : decode zc_PA_arcsOutward 6 = .ok (.ireturn, 1) := by decide +kernel
theorem zd_PA_goals_0 : decode zc_PA_goals 0 = .ok (.aload_n 0, 1) := by decide +kernel
theorem zd_PA_goals_1 : decode zc_PA_goals 1 = .ok (.iload_n 1, 1) := by decide +kernel
theorem zd_PA_goals_2 : decode zc_PA_goals 2 = .ok (.invokevirtual 106, 3) := by decide +kernel
theorem zd_PA_goals_5 : decode zc_PA_goals 5 = .ok (.aload_n 0, 1) := by decide +kernel
theorem zd_PA_goals_6 : decode zc_PA_goals 6 = .ok (.getfield 26, 3) := by decide +kernel
theorem zd_PA_goals_9 : decode zc_PA_goals 9 = .ok (.iconst 0, 1) := by decide +kernel
theorem zd_PA_goals_10 : decode zc_PA_goals 10 = .ok (.invokevirtual 109, 3) := by decide +kernel
theorem zd_PA_goals_13 : decode zc_PA_goals 13 = .ok (.ireturn, 1) := by decide +kernel
theorem zd_PA_findGoals_0 : decode zc_PA_findGoals 0 = .ok (.aload_n 0, 1) := by decide +kernel
theorem zd_PA_findGoals_1 : decode zc_PA_findGoals 1 = .ok (.getfield 26, 3) := by decide +kernel
theorem zd_PA_findGoals_4 : decode zc_PA_findGoals 4 = .ok (.invokevirtual 116, 3) := by decide +kernel
theorem zd_PA_findGoals_7 : decode zc_PA_findGoals 7 = .ok (.iconst 0, 1) := by decide +kernel
theorem zd_PA_findGoals_8 : decode zc_PA_findGoals 8 = .ok (.istore_n 2, 1) := by decide +kernel
theorem zd_PA_findGoals_9 : decode zc_PA_findGoals 9 = .ok (.iload_n 2, 1) := by decide +kernel
theorem zd_PA_findGoals_10 : decode zc_PA_findGoals 10 = .ok (.aload_n 0, 1) := by decide +kernel
theorem zd_PA_findGoals_11 : decode zc_PA_findGoals 11 = .ok (.getfield 33, 3) := by decide +kernel
theorem zd_PA_findGoals_14 : decode zc_PA_findGoals 14 = .ok (.getfield 61, 3) := by decide +kernel
theorem zd_PA_findGoals_17 : decode zc_PA_findGoals 17 = .ok (.if_icmp .ge 90, 3) := by decide +kernel
theorem zd_PA_findGoals_20 : decode zc_PA_findGoals 20 = .ok (.aload_n 0, 1) := by decide +kernel
theorem zd_PA_findGoals_21 : decode zc_PA_findGoals 21 = .ok (.getfield 37, 3) := by decide +kernel
theorem zd_PA_findGoals_24 : decode zc_PA_findGoals 24 = .ok (.iload_n 2, 1) := by decide +kernel
theorem zd_PA_findGoals_25 : decode zc_PA_findGoals 25 = .ok (.iaload, 1) := by decide +kernel
theorem zd_PA_findGoals_26 : decode zc_PA_findGoals 26 = .ok (.iload_n 1, 1) := by decide +kernel
theorem zd_PA_findGoals_27 : decode zc_PA_findGoals 27 = .ok (.if_icmp .ne 22, 3) := by decide +kernel
theorem zd_PA_findGoals_30 : decode zc_PA_findGoals 30 = .ok (.aload_n 0, 1) := by decide +kernel
theorem zd_PA_findGoals_31 : decode zc_PA_findGoals 31 = .ok (.getfield 33, 3) := by decide +kernel
theorem zd_PA_findGoals_34 : decode zc_PA_findGoals 34 = .ok (.getfield 99, 3) := by decide +kernel
theorem zd_PA_findGoals_37 : decode zc_PA_findGoals 37 = .ok (.iload_n 2, 1) := by decide +kernel
theorem zd_PA_findGoals_38 : decode zc_PA_findGoals 38 = .ok (.aload_n 0, 1) := by decide +kernel
theorem zd_PA_findGoals_39 : decode zc_PA_findGoals 39 = .ok (.getfield 18, 3) := by decide +kernel
theorem zd_PA_findGoals_42 : decode zc_PA_findGoals 42 = .ok (.iconst 0, 1) := by decide +kernel
theorem zd_PA_findGoals_43 : decode zc_PA_findGoals 43 = .ok (.invokevirtual 102, 3) := by decide +kernel
theorem zd_PA_findGoals_46 : decode zc_PA_findGoals 46 = .ok (.goto 4, 3) := by decide +kernel
theorem zd_PA_findGoals_49 : decode zc_PA_findGoals 49 = .ok (.iconst 0, 1) := by decide +kernel
theorem zd_PA_findGoals_50 : decode zc_PA_findGoals 50 = .ok (.istore_n 3, 1) := by decide +kernel
theorem zd_PA_findGoals_51 : decode zc_PA_findGoals 51 = .ok (.iconst 0, 1) := by decide +kernel
theorem zd_PA_findGoals_52 : decode zc_PA_findGoals 52 = .ok (.istore 4, 2) := by decide +kernel
theorem zd_PA_findGoals_54 : decode zc_PA_findGoals 54 = .ok (.iload 4, 2) := by decide +kernel
theorem zd_PA_findGoals_56 : decode zc_PA_findGoals 56 = .ok (.iload_n 3, 1) := by decide +kernel
theorem zd_PA_findGoals_57 : decode zc_PA_findGoals 57 = .ok (.if_icmp .ge 44, 3) := by decide +kernel
theorem zd_PA_findGoals_60 : decode zc_PA_findGoals 60 = .ok (.aload_n 0, 1) := by decide +kernel
theorem zd_PA_findGoals_61 : decode zc_PA_findGoals 61 = .ok (.getfield 37, 3) := by decide +kernel
theorem zd_PA_findGoals_64 : decode zc_PA_findGoals 64 = .ok (.aload_n 0, 1) := by decide +kernel
theorem zd_PA_findGoals_65 : decode zc_PA_findGoals 65 = .ok (.getfield 18, 3) := by decide +kernel
theorem zd_PA_findGoals_68 : decode zc_PA_findGoals 68 = .ok (.iload 4, 2) := by decide +kernel
theorem zd_PA_findGoals_70 : decode zc_PA_findGoals 70 = .ok (.iaload, 1) := by decide +kernel
theorem zd_PA_findGoals_71 : decode zc_PA_findGoals 71 = .ok (.iaload, 1) := by decide +kernel
theorem zd_PA_findGoals_72 : decode zc_PA_findGoals 72 = .ok (.istore 5, 2) := by decide +kernel
theorem zd_PA_findGoals_74 : decode zc_PA_findGoals 74 = .ok (.iload 5, 2) := by decide +kernel
theorem zd_PA_findGoals_76 : decode zc_PA_findGoals 76 = .ok (.iload_n 1, 1) := by decide +kernel
theorem zd_PA_findGoals_77 : decode zc_PA_findGoals 77 = .ok (.if_icmp .eq 18, 3) := by decide +kernel
theorem zd_PA_findGoals_80 : decode zc_PA_findGoals 80 = .ok (.aload_n 0, 1) := by decide +kernel
theorem zd_PA_findGoals_81 : decode zc_PA_findGoals 81 = .ok (.getfield 26, 3) := by decide +kernel
theorem zd_PA_findGoals_84 : decode zc_PA_findGoals 84 = .ok (.iconst 0, 1) := by decide +kernel
theorem zd_PA_findGoals_85 : decode zc_PA_findGoals 85 = .ok (.aload_n 0, 1) := by decide +kernel
theorem zd_PA_findGoals_86 : decode zc_PA_findGoals 86 = .ok (.getfield 40, 3) := by decide +kernel
theorem zd_PA_findGoals_89 : decode zc_PA_findGoals 89 = .ok (.iload 5, 2) := by decide +kernel
theorem zd_PA_findGoals_91 : decode zc_PA_findGoals 91 = .ok (.iaload, 1) := by decide +kernel
theorem zd_PA_findGoals_92 : decode zc_PA_findGoals 92 = .ok (.invokevirtual 119, 3) := by decide +kernel
theorem zd_PA_findGoals_95 : decode zc_PA_findGoals 95 = .ok (.iinc 4 1, 3) := by decide +kernel
theorem zd_PA_findGoals_98 : decode zc_PA_findGoals 98 = .ok (.goto (-44), 3) := by decide +kernel
theorem zd_PA_findGoals_101 : decode zc_PA_findGoals 101 = .ok (.iinc 2 1, 3) := by decide +kernel
theorem zd_PA_findGoals_104 : decode zc_PA_findGoals 104 = .ok (.goto (-95), 3) := by decide +kernel
theorem zd_PA_findGoals_107 : decode zc_PA_findGoals 107 = .ok (.return_, 1) := by decide +kernel
theorem zd_PA_goalsAlone_0 : decode zc_PA_goalsAlone 0 = .ok (.aload_n 0, 1) := by decide +kernel
theorem zd_PA_goalsAlone_1 : decode zc_PA_goalsAlone 1 = .ok (.iload_n 1, 1) := by decide +kernel
theorem zd_PA_goalsAlone_2 : decode zc_PA_goalsAlone 2 = .ok (.invokevirtual 106, 3) := by decide +kernel
theorem zd_PA_goalsAlone_5 : decode zc_PA_goalsAlone 5 = .ok (.iconst 0, 1) := by decide +kernel
theorem zd_PA_goalsAlone_6 : decode zc_PA_goalsAlone 6 = .ok (.istore_n 2, 1) := by decide +kernel
theorem zd_PA_goalsAlone_7 : decode zc_PA_goalsAlone 7 = .ok (.aload_n 0, 1) := by decide +kernel
theorem zd_PA_goalsAlone_8 : decode zc_PA_goalsAlone 8 = .ok (.getfield 26, 3) := by decide +kernel
theorem zd_PA_goalsAlone_11 : decode zc_PA_goalsAlone 11 = .ok (.iconst 0, 1) := by decide +kernel
theorem zd_PA_goalsAlone_12 : decode zc_PA_goalsAlone 12 = .ok (.aload_n 0, 1) := by decide +kernel
theorem zd_PA_goalsAlone_13 : decode zc_PA_goalsAlone 13 = .ok (.getfield 18, 3) := by decide +kernel
theorem zd_PA_goalsAlone_16 : decode zc_PA_goalsAlone 16 = .ok (.iconst 0, 1) := by decide +kernel
theorem zd_PA_goalsAlone_17 : decode zc_PA_goalsAlone 17 = .ok (.invokevirtual 102, 3) := by decide +kernel
theorem zd_PA_goalsAlone_20 : decode zc_PA_goalsAlone 20 = .ok (.istore_n 3, 1) := by decide +kernel
theorem zd_PA_goalsAlone_21 : decode zc_PA_goalsAlone 21 = .ok (.iconst 0, 1) := by decide +kernel
theorem zd_PA_goalsAlone_22 : decode zc_PA_goalsAlone 22 = .ok (.istore 4, 2) := by decide +kernel
theorem zd_PA_goalsAlone_24 : decode zc_PA_goalsAlone 24 = .ok (.iload 4, 2) := by decide +kernel
theorem zd_PA_goalsAlone_26 : decode zc_PA_goalsAlone 26 = .ok (.iload_n 3, 1) := by decide +kernel
theorem zd_PA_goalsAlone_27 : decode zc_PA_goalsAlone 27 = .ok (.if_icmp .ge 37, 3) := by decide +kernel
theorem zd_PA_goalsAlone_30 : decode zc_PA_goalsAlone 30 = .ok (.aload_n 0, 1) := by decide +kernel
theorem zd_PA_goalsAlone_31 : decode zc_PA_goalsAlone 31 = .ok (.getfield 33, 3) := by decide +kernel
theorem zd_PA_goalsAlone_34 : decode zc_PA_goalsAlone 34 = .ok (.getfield 83, 3) := by decide +kernel
theorem zd_PA_goalsAlone_37 : decode zc_PA_goalsAlone 37 = .ok (.aload_n 0, 1) := by decide +kernel
theorem zd_PA_goalsAlone_38 : decode zc_PA_goalsAlone 38 = .ok (.getfield 18, 3) := by decide +kernel
theorem zd_PA_goalsAlone_41 : decode zc_PA_goalsAlone 41 = .ok (.iload 4, 2) := by decide +kernel
theorem zd_PA_goalsAlone_43 : decode zc_PA_goalsAlone 43 = .ok (.iaload, 1) := by decide +kernel
theorem zd_PA_goalsAlone_44 : decode zc_PA_goalsAlone 44 = .ok (.aload_n 0, 1) := by decide +kernel
theorem zd_PA_goalsAlone_45 : decode zc_PA_goalsAlone 45 = .ok (.getfield 26, 3) := by decide +kernel
theorem zd_PA_goalsAlone_48 : decode zc_PA_goalsAlone 48 = .ok (.invokevirtual 112, 3) := by decide +kernel
theorem zd_PA_goalsAlone_51 : decode zc_PA_goalsAlone 51 = .ok (.iconst 1, 1) := by decide +kernel
theorem zd_PA_goalsAlone_52 : decode zc_PA_goalsAlone 52 = .ok (.if_icmp .ne 6, 3) := by decide +kernel
theorem zd_PA_goalsAlone_55 : decode zc_PA_goalsAlone 55 = .ok (.iinc 2 1, 3) := by decide +kernel
theorem zd_PA_goalsAlone_58 : decode zc_PA_goalsAlone 58 = .ok (.iinc 4 1, 3) := by decide +kernel
theorem zd_PA_goalsAlone_61 : decode zc_PA_goalsAlone 61 = .ok (.goto (-37), 3) := by decide +kernel
theorem zd_PA_goalsAlone_64 : decode zc_PA_goalsAlone 64 = .ok (.iload_n 2, 1) := by decide +kernel
theorem zd_PA_goalsAlone_65 : decode zc_PA_goalsAlone 65 = .ok (.ireturn, 1) := by decide +kernel
theorem zd_RE_countBehindIn_0 : decode zc_RE_countBehindIn 0 = .ok (.aload_n 0, 1) := by decide +kernel
theorem zd_RE_countBehindIn_1 : decode zc_RE_countBehindIn 1 = .ok (.getfield 20, 3) := by decide +kernel
theorem zd_RE_countBehindIn_4 : decode zc_RE_countBehindIn 4 = .ok (.iload_n 1, 1) := by decide +kernel
theorem zd_RE_countBehindIn_5 : decode zc_RE_countBehindIn 5 = .ok (.aload_n 2, 1) := by decide +kernel
theorem zd_RE_countBehindIn_6 : decode zc_RE_countBehindIn 6 = .ok (.iconst 0, 1) := by decide +kernel
theorem zd_RE_countBehindIn_7 : decode zc_RE_countBehindIn 7 = .ok (.invokevirtual 50, 3) := by decide +kernel
theorem zd_RE_countBehindIn_10 : decode zc_RE_countBehindIn 10 = .ok (.ireturn, 1) := by decide +kernel
theorem zd_PA_longestChain_0 : decode zc_PA_longestChain 0 = .ok (.aload_n 0, 1) := by decide +kernel
theorem zd_PA_longestChain_1 : decode zc_PA_longestChain 1 = .ok (.getfield 73, 3) := by decide +kernel
theorem zd_PA_longestChain_4 : decode zc_PA_longestChain 4 = .ok (.iconst 1, 1) := by decide +kernel
theorem zd_PA_longestChain_5 : decode zc_PA_longestChain 5 = .ok (.isub, 1) := by decide +kernel
theorem zd_PA_longestChain_6 : decode zc_PA_longestChain 6 = .ok (.istore_n 2, 1) := by decide +kernel
theorem zd_PA_longestChain_7 : decode zc_PA_longestChain 7 = .ok (.iload_n 2, 1) := by decide +kernel
theorem zd_PA_longestChain_8 : decode zc_PA_longestChain 8 = .ok (.iload_n 1, 1) := by decide +kernel
theorem zd_PA_longestChain_9 : decode zc_PA_longestChain 9 = .ok (.if_icmp .lt 96, 3) := by decide +kernel
theorem zd_PA_longestChain_12 : decode zc_PA_longestChain 12 = .ok (.aload_n 0, 1) := by decide +kernel
theorem zd_PA_longestChain_13 : decode zc_PA_longestChain 13 = .ok (.getfield 15, 3) := by decide +kernel
theorem zd_PA_longestChain_16 : decode zc_PA_longestChain 16 = .ok (.iload_n 2, 1) := by decide +kernel
theorem zd_PA_longestChain_17 : decode zc_PA_longestChain 17 = .ok (.iconst 1, 1) := by decide +kernel
theorem zd_PA_longestChain_18 : decode zc_PA_longestChain 18 = .ok (.iastore, 1) := by decide +kernel
theorem zd_PA_longestChain_19 : decode zc_PA_longestChain 19 = .ok (.aload_n 0, 1) := by decide +kernel
theorem zd_PA_longestChain_20 : decode zc_PA_longestChain 20 = .ok (.getfield 33, 3) := by decide +kernel
theorem zd_PA_longestChain_23 : decode zc_PA_longestChain 23 = .ok (.getfield 83, 3) := by decide +kernel
theorem zd_PA_longestChain_26 : decode zc_PA_longestChain 26 = .ok (.aload_n 0, 1) := by decide +kernel
theorem zd_PA_longestChain_27 : decode zc_PA_longestChain 27 = .ok (.getfield 40, 3) := by decide +kernel
theorem zd_PA_longestChain_30 : decode zc_PA_longestChain 30 = .ok (.iload_n 2, 1) := by decide +kernel
theorem zd_PA_longestChain_31 : decode zc_PA_longestChain 31 = .ok (.iaload, 1) := by decide +kernel
theorem zd_PA_longestChain_32 : decode zc_PA_longestChain 32 = .ok (.aload_n 0, 1) := by decide +kernel
theorem zd_PA_longestChain_33 : decode zc_PA_longestChain 33 = .ok (.getfield 18, 3) := by decide +kernel
theorem zd_PA_longestChain_36 : decode zc_PA_longestChain 36 = .ok (.invokevirtual 87, 3) := by decide +kernel
theorem zd_PA_longestChain_39 : decode zc_PA_longestChain 39 = .ok (.istore_n 3, 1) := by decide +kernel
theorem zd_PA_longestChain_40 : decode zc_PA_longestChain 40 = .ok (.iconst 0, 1) := by decide +kernel
theorem zd_PA_longestChain_41 : decode zc_PA_longestChain 41 = .ok (.istore 4, 2) := by decide +kernel
theorem zd_PA_longestChain_43 : decode zc_PA_longestChain 43 = .ok (.iload 4, 2) := by decide +kernel
theorem zd_PA_longestChain_45 : decode zc_PA_longestChain 45 = .ok (.iload_n 3, 1) := by decide +kernel
theorem zd_PA_longestChain_46 : decode zc_PA_longestChain 46 = .ok (.if_icmp .ge 53, 3) := by decide +kernel
theorem zd_PA_longestChain_49 : decode zc_PA_longestChain 49 = .ok (.aload_n 0, 1) := by decide +kernel
theorem zd_PA_longestChain_50 : decode zc_PA_longestChain 50 = .ok (.getfield 37, 3) := by decide +kernel
theorem zd_PA_longestChain_53 : decode zc_PA_longestChain 53 = .ok (.aload_n 0, 1) := by decide +kernel
theorem zd_PA_longestChain_54 : decode zc_PA_longestChain 54 = .ok (.getfield 18, 3) := by decide +kernel
theorem zd_PA_longestChain_57 : decode zc_PA_longestChain 57 = .ok (.iload 4, 2) := by decide +kernel
theorem zd_PA_longestChain_59 : decode zc_PA_longestChain 59 = .ok (.iaload, 1) := by decide +kernel
theorem zd_PA_longestChain_60 : decode zc_PA_longestChain 60 = .ok (.iaload, 1) := by decide +kernel
theorem zd_PA_longestChain_61 : decode zc_PA_longestChain 61 = .ok (.istore 5, 2) := by decide +kernel
theorem zd_PA_longestChain_63 : decode zc_PA_longestChain 63 = .ok (.iload 5, 2) := by decide +kernel
theorem zd_PA_longestChain_65 : decode zc_PA_longestChain 65 = .ok (.iload_n 2, 1) := by decide +kernel
theorem zd_PA_longestChain_66 : decode zc_PA_longestChain 66 = .ok (.if_icmp .le 27, 3) := by decide +kernel
theorem zd_PA_longestChain_69 : decode zc_PA_longestChain 69 = .ok (.aload_n 0, 1) := by decide +kernel
theorem zd_PA_longestChain_70 : decode zc_PA_longestChain 70 = .ok (.getfield 15, 3) := by decide +kernel
theorem zd_PA_longestChain_73 : decode zc_PA_longestChain 73 = .ok (.iload_n 2, 1) := by decide +kernel
theorem zd_PA_longestChain_74 : decode zc_PA_longestChain 74 = .ok (.aload_n 0, 1) := by decide +kernel
theorem zd_PA_longestChain_75 : decode zc_PA_longestChain 75 = .ok (.getfield 15, 3) := by decide +kernel
theorem zd_PA_longestChain_78 : decode zc_PA_longestChain 78 = .ok (.iload_n 2, 1) := by decide +kernel
theorem zd_PA_longestChain_79 : decode zc_PA_longestChain 79 = .ok (.iaload, 1) := by decide +kernel
theorem zd_PA_longestChain_80 : decode zc_PA_longestChain 80 = .ok (.iconst 1, 1) := by decide +kernel
theorem zd_PA_longestChain_81 : decode zc_PA_longestChain 81 = .ok (.aload_n 0, 1) := by decide +kernel
theorem zd_PA_longestChain_82 : decode zc_PA_longestChain 82 = .ok (.getfield 15, 3) := by decide +kernel
theorem zd_PA_longestChain_85 : decode zc_PA_longestChain 85 = .ok (.iload 5, 2) := by decide +kernel
theorem zd_PA_longestChain_87 : decode zc_PA_longestChain 87 = .ok (.iaload, 1) := by decide +kernel
theorem zd_PA_longestChain_88 : decode zc_PA_longestChain 88 = .ok (.iadd, 1) := by decide +kernel
theorem zd_PA_longestChain_89 : decode zc_PA_longestChain 89 = .ok (.invokestatic 123, 3) := by decide +kernel
theorem zd_PA_longestChain_92 : decode zc_PA_longestChain 92 = .ok (.iastore, 1) := by decide +kernel
theorem zd_PA_longestChain_93 : decode zc_PA_longestChain 93 = .ok (.iinc 4 1, 3) := by decide +kernel
theorem zd_PA_longestChain_96 : decode zc_PA_longestChain 96 = .ok (.goto (-53), 3) := by decide +kernel
theorem zd_PA_longestChain_99 : decode zc_PA_longestChain 99 = .ok (.iinc 2 (-1), 3) := by decide +kernel
theorem zd_PA_longestChain_102 : decode zc_PA_longestChain 102 = .ok (.goto (-95), 3) := by decide +kernel
theorem zd_PA_longestChain_105 : decode zc_PA_longestChain 105 = .ok (.aload_n 0, 1) := by decide +kernel
theorem zd_PA_longestChain_106 : decode zc_PA_longestChain 106 = .ok (.getfield 15, 3) := by decide +kernel
theorem zd_PA_longestChain_109 : decode zc_PA_longestChain 109 = .ok (.iload_n 1, 1) := by decide +kernel
theorem zd_PA_longestChain_110 : decode zc_PA_longestChain 110 = .ok (.iaload, 1) := by decide +kernel
theorem zd_PA_longestChain_111 : decode zc_PA_longestChain 111 = .ok (.ireturn, 1) := by decide +kernel
theorem zd_LA_reaches_0 : decode zc_LA_reaches 0 = .ok (.aload_n 3, 1) := by decide +kernel
theorem zd_LA_reaches_1 : decode zc_LA_reaches 1 = .ok (.iconst 0, 1) := by decide +kernel
theorem zd_LA_reaches_2 : decode zc_LA_reaches 2 = .ok (.aload_n 0, 1) := by decide +kernel
theorem zd_LA_reaches_3 : decode zc_LA_reaches 3 = .ok (.iload_n 1, 1) := by decide +kernel
theorem zd_LA_reaches_4 : decode zc_LA_reaches 4 = .ok (.iload_n 2, 1) := by decide +kernel
theorem zd_LA_reaches_5 : decode zc_LA_reaches 5 = .ok (.invokevirtual 32, 3) := by decide +kernel
theorem zd_LA_reaches_8 : decode zc_LA_reaches 8 = .ok (.ifCond .eq 7, 3) := by decide +kernel
theorem zd_LA_reaches_11 : decode zc_LA_reaches 11 = .ok (.lconst 1, 1) := by decide +kernel
theorem zd_LA_reaches_12 : decode zc_LA_reaches 12 = .ok (.goto 4, 3) := by decide +kernel
theorem zd_LA_reaches_15 : decode zc_LA_reaches 15 = .ok (.lconst 0, 1) := by decide +kernel
theorem zd_LA_reaches_16 : decode zc_LA_reaches 16 = .ok (.lastore, 1) := by decide +kernel
theorem zd_LA_reaches_17 : decode zc_LA_reaches 17 = .ok (.goto 7, 3) := by decide +kernel
theorem zd_LA_reaches_20 : decode zc_LA_reaches 20 = .ok (.astore 4, 2) := by decide +kernel
theorem zd_LA_reaches_22 : decode zc_LA_reaches 22 = .ok (.iconst 1, 1) := by decide +kernel
theorem zd_LA_reaches_23 : decode zc_LA_reaches 23 = .ok (.ireturn, 1) := by decide +kernel
theorem zd_LA_reaches_24 : decode zc_LA_reaches 24 = .ok (.iconst 0, 1) := by decide +kernel
theorem zd_LA_reaches_25 : decode zc_LA_reaches 25 = .ok (.ireturn, 1) := by decide +kernel
theorem zd_CG_reaches_0 : decode zc_CG_reaches 0 = .ok (.aload_n 0, 1) := by decide +kernel
theorem zd_CG_reaches_1 : decode zc_CG_reaches 1 = .ok (.iload_n 1, 1) := by decide +kernel
theorem zd_CG_reaches_2 : decode zc_CG_reaches 2 = .ok (.invokevirtual 41, 3) := by decide +kernel
theorem zd_CG_reaches_5 : decode zc_CG_reaches 5 = .ok (.aload_n 0, 1) := by decide +kernel
theorem zd_CG_reaches_6 : decode zc_CG_reaches 6 = .ok (.iload_n 2, 1) := by decide +kernel
theorem zd_CG_reaches_7 : decode zc_CG_reaches 7 = .ok (.invokevirtual 41, 3) := by decide +kernel
theorem zd_CG_reaches_10 : decode zc_CG_reaches 10 = .ok (.aload_n 0, 1) := by decide +kernel
theorem zd_CG_reaches_11 : decode zc_CG_reaches 11 = .ok (.getfield 20, 3) := by decide +kernel
theorem zd_CG_reaches_14 : decode zc_CG_reaches 14 = .ok (.invokevirtual 93, 3) := by decide +kernel
theorem zd_CG_reaches_17 : decode zc_CG_reaches 17 = .ok (.iload_n 1, 1) := by decide +kernel
theorem zd_CG_reaches_18 : decode zc_CG_reaches 18 = .ok (.iload_n 2, 1) := by decide +kernel
theorem zd_CG_reaches_19 : decode zc_CG_reaches 19 = .ok (.invokevirtual 97, 3) := by decide +kernel
theorem zd_CG_reaches_22 : decode zc_CG_reaches 22 = .ok (.ireturn, 1) := by decide +kernel
theorem zd_RE_leads_0 : decode zc_RE_leads 0 = .ok (.aload_n 0, 1) := by decide +kernel
theorem zd_RE_leads_1 : decode zc_RE_leads 1 = .ok (.getfield 14, 3) := by decide +kernel
theorem zd_RE_leads_4 : decode zc_RE_leads 4 = .ok (.iload_n 1, 1) := by decide +kernel
theorem zd_RE_leads_5 : decode zc_RE_leads 5 = .ok (.iload_n 2, 1) := by decide +kernel
theorem zd_RE_leads_6 : decode zc_RE_leads 6 = .ok (.invokevirtual 34, 3) := by decide +kernel
theorem zd_RE_leads_9 : decode zc_RE_leads 9 = .ok (.ireturn, 1) := by decide +kernel
theorem zd_LA_walk_0 : decode zc_LA_walk 0 = .ok (.aload_n 3, 1) := by decide +kernel
theorem zd_LA_walk_1 : decode zc_LA_walk 1 = .ok (.iconst 0, 1) := by decide +kernel
theorem zd_LA_walk_2 : decode zc_LA_walk 2 = .ok (.aload_n 0, 1) := by decide +kernel
theorem zd_LA_walk_3 : decode zc_LA_walk 3 = .ok (.iload_n 1, 1) := by decide +kernel
theorem zd_LA_walk_4 : decode zc_LA_walk 4 = .ok (.iload_n 2, 1) := by decide +kernel
theorem zd_LA_walk_5 : decode zc_LA_walk 5 = .ok (.invokevirtual 35, 3) := by decide +kernel
theorem zd_LA_walk_8 : decode zc_LA_walk 8 = .ok (.i2l, 1) := by decide +kernel
theorem zd_LA_walk_9 : decode zc_LA_walk 9 = .ok (.lastore, 1) := by decide +kernel
theorem zd_LA_walk_10 : decode zc_LA_walk 10 = .ok (.goto 7, 3) := by decide +kernel
theorem zd_LA_walk_13 : decode zc_LA_walk 13 = .ok (.astore 4, 2) := by decide +kernel
theorem zd_LA_walk_15 : decode zc_LA_walk 15 = .ok (.iconst 1, 1) := by decide +kernel
theorem zd_LA_walk_16 : decode zc_LA_walk 16 = .ok (.ireturn, 1) := by decide +kernel
theorem zd_LA_walk_17 : decode zc_LA_walk 17 = .ok (.iconst 0, 1) := by decide +kernel
theorem zd_LA_walk_18 : decode zc_LA_walk 18 = .ok (.ireturn, 1) := by decide +kernel
theorem zd_CG_walk_0 : decode zc_CG_walk 0 = .ok (.aload_n 0, 1) := by decide +kernel
theorem zd_CG_walk_1 : decode zc_CG_walk 1 = .ok (.iload_n 1, 1) := by decide +kernel
theorem zd_CG_walk_2 : decode zc_CG_walk 2 = .ok (.invokevirtual 41, 3) := by decide +kernel
theorem zd_CG_walk_5 : decode zc_CG_walk 5 = .ok (.aload_n 0, 1) := by decide +kernel
theorem zd_CG_walk_6 : decode zc_CG_walk 6 = .ok (.iload_n 2, 1) := by decide +kernel
theorem zd_CG_walk_7 : decode zc_CG_walk 7 = .ok (.invokevirtual 41, 3) := by decide +kernel
theorem zd_CG_walk_10 : decode zc_CG_walk 10 = .ok (.aload_n 0, 1) := by decide +kernel
theorem zd_CG_walk_11 : decode zc_CG_walk 11 = .ok (.getfield 20, 3) := by decide +kernel
theorem zd_CG_walk_14 : decode zc_CG_walk 14 = .ok (.iload_n 1, 1) := by decide +kernel
theorem zd_CG_walk_15 : decode zc_CG_walk 15 = .ok (.iload_n 2, 1) := by decide +kernel
theorem zd_CG_walk_16 : decode zc_CG_walk 16 = .ok (.invokevirtual 102, 3) := by decide +kernel
theorem zd_CG_walk_19 : decode zc_CG_walk 19 = .ok (.ireturn, 1) := by decide +kernel
theorem zd_NE_shortest_0 : decode zc_NE_shortest 0 = .ok (.aload_n 0, 1) := by decide +kernel
theorem zd_NE_shortest_1 : decode zc_NE_shortest 1 = .ok (.getfield 12, 3) := by decide +kernel
theorem zd_NE_shortest_4 : decode zc_NE_shortest 4 = .ok (.aload_n 0, 1) := by decide +kernel
theorem zd_NE_shortest_5 : decode zc_NE_shortest 5 = .ok (.getfield 27, 3) := by decide +kernel
theorem zd_NE_shortest_8 : decode zc_NE_shortest 8 = .ok (.iload_n 1, 1) := by decide +kernel
theorem zd_NE_shortest_9 : decode zc_NE_shortest 9 = .ok (.iload_n 2, 1) := by decide +kernel
theorem zd_NE_shortest_10 : decode zc_NE_shortest 10 = .ok (.invokevirtual 80, 3) := by decide +kernel
theorem zd_NE_shortest_13 : decode zc_NE_shortest 13 = .ok (.ireturn, 1) := by decide +kernel
theorem zd_LA_counted_0 : decode zc_LA_counted 0 = .ok (.aload_n 3, 1) := by decide +kernel
theorem zd_LA_counted_1 : decode zc_LA_counted 1 = .ok (.iconst 0, 1) := by decide +kernel
theorem zd_LA_counted_2 : decode zc_LA_counted 2 = .ok (.aload_n 0, 1) := by decide +kernel
theorem zd_LA_counted_3 : decode zc_LA_counted 3 = .ok (.iload_n 1, 1) := by decide +kernel
theorem zd_LA_counted_4 : decode zc_LA_counted 4 = .ok (.iload_n 2, 1) := by decide +kernel
theorem zd_LA_counted_5 : decode zc_LA_counted 5 = .ok (.invokevirtual 38, 3) := by decide +kernel
theorem zd_LA_counted_8 : decode zc_LA_counted 8 = .ok (.i2l, 1) := by decide +kernel
theorem zd_LA_counted_9 : decode zc_LA_counted 9 = .ok (.lastore, 1) := by decide +kernel
theorem zd_LA_counted_10 : decode zc_LA_counted 10 = .ok (.goto 11, 3) := by decide +kernel
theorem zd_LA_counted_13 : decode zc_LA_counted 13 = .ok (.astore 4, 2) := by decide +kernel
theorem zd_LA_counted_15 : decode zc_LA_counted 15 = .ok (.iconst 1, 1) := by decide +kernel
theorem zd_LA_counted_16 : decode zc_LA_counted 16 = .ok (.ireturn, 1) := by decide +kernel
theorem zd_LA_counted_17 : decode zc_LA_counted 17 = .ok (.astore 4, 2) := by decide +kernel
theorem zd_LA_counted_19 : decode zc_LA_counted 19 = .ok (.iconst 2, 1) := by decide +kernel
theorem zd_LA_counted_20 : decode zc_LA_counted 20 = .ok (.ireturn, 1) := by decide +kernel
theorem zd_LA_counted_21 : decode zc_LA_counted 21 = .ok (.iconst 0, 1) := by decide +kernel
theorem zd_LA_counted_22 : decode zc_LA_counted 22 = .ok (.ireturn, 1) := by decide +kernel
theorem zd_CG_counted_0 : decode zc_CG_counted 0 = .ok (.aload_n 0, 1) := by decide +kernel
theorem zd_CG_counted_1 : decode zc_CG_counted 1 = .ok (.iload_n 1, 1) := by decide +kernel
theorem zd_CG_counted_2 : decode zc_CG_counted 2 = .ok (.invokevirtual 41, 3) := by decide +kernel
theorem zd_CG_counted_5 : decode zc_CG_counted 5 = .ok (.iload_n 2, 1) := by decide +kernel
theorem zd_CG_counted_6 : decode zc_CG_counted 6 = .ok (.ifCond .eq 18, 3) := by decide +kernel
theorem zd_CG_counted_9 : decode zc_CG_counted 9 = .ok (.iload_n 2, 1) := by decide +kernel
theorem zd_CG_counted_10 : decode zc_CG_counted 10 = .ok (.iconst 1, 1) := by decide +kernel
theorem zd_CG_counted_11 : decode zc_CG_counted 11 = .ok (.if_icmp .eq 13, 3) := by decide +kernel
theorem zd_CG_counted_14 : decode zc_CG_counted 14 = .ok (.new 28, 3) := by decide +kernel
theorem zd_CG_counted_17 : decode zc_CG_counted 17 = .ok (.dup, 1) := by decide +kernel
theorem zd_CG_counted_18 : decode zc_CG_counted 18 = .ok (.ldc 105, 2) := by decide +kernel
theorem zd_CG_counted_20 : decode zc_CG_counted 20 = .ok (.invokespecial 32, 3) := by decide +kernel
theorem zd_CG_counted_23 : decode zc_CG_counted 23 = .ok (.athrow, 1) := by decide +kernel
theorem zd_CG_counted_24 : decode zc_CG_counted 24 = .ok (.aload_n 0, 1) := by decide +kernel
theorem zd_CG_counted_25 : decode zc_CG_counted 25 = .ok (.getfield 20, 3) := by decide +kernel
theorem zd_CG_counted_28 : decode zc_CG_counted 28 = .ok (.invokevirtual 93, 3) := by decide +kernel
theorem zd_CG_counted_31 : decode zc_CG_counted 31 = .ok (.astore_n 3, 1) := by decide +kernel
theorem zd_CG_counted_32 : decode zc_CG_counted 32 = .ok (.iload_n 2, 1) := by decide +kernel
theorem zd_CG_counted_33 : decode zc_CG_counted 33 = .ok (.ifCond .ne 11, 3) := by decide +kernel
theorem zd_CG_counted_36 : decode zc_CG_counted 36 = .ok (.aload_n 3, 1) := by decide +kernel
theorem zd_CG_counted_37 : decode zc_CG_counted 37 = .ok (.iload_n 1, 1) := by decide +kernel
theorem zd_CG_counted_38 : decode zc_CG_counted 38 = .ok (.invokevirtual 107, 3) := by decide +kernel
theorem zd_CG_counted_41 : decode zc_CG_counted 41 = .ok (.goto 8, 3) := by decide +kernel
theorem zd_CG_counted_44 : decode zc_CG_counted 44 = .ok (.aload_n 3, 1) := by decide +kernel
theorem zd_CG_counted_45 : decode zc_CG_counted 45 = .ok (.iload_n 1, 1) := by decide +kernel
theorem zd_CG_counted_46 : decode zc_CG_counted 46 = .ok (.invokevirtual 110, 3) := by decide +kernel
theorem zd_CG_counted_49 : decode zc_CG_counted 49 = .ok (.ireturn, 1) := by decide +kernel
theorem zd_LA_variables_0 : decode zc_LA_variables 0 = .ok (.aload_n 0, 1) := by decide +kernel
theorem zd_LA_variables_1 : decode zc_LA_variables 1 = .ok (.iload_n 1, 1) := by decide +kernel
theorem zd_LA_variables_2 : decode zc_LA_variables 2 = .ok (.invokevirtual 41, 3) := by decide +kernel
theorem zd_LA_variables_5 : decode zc_LA_variables 5 = .ok (.goto 6, 3) := by decide +kernel
theorem zd_LA_variables_8 : decode zc_LA_variables 8 = .ok (.astore_n 2, 1) := by decide +kernel
theorem zd_LA_variables_9 : decode zc_LA_variables 9 = .ok (.iconst 1, 1) := by decide +kernel
theorem zd_LA_variables_10 : decode zc_LA_variables 10 = .ok (.ireturn, 1) := by decide +kernel
theorem zd_LA_variables_11 : decode zc_LA_variables 11 = .ok (.iconst 0, 1) := by decide +kernel
theorem zd_LA_variables_12 : decode zc_LA_variables 12 = .ok (.ireturn, 1) := by decide +kernel
theorem zd_CG_variables_0 : decode zc_CG_variables 0 = .ok (.iload_n 1, 1) := by decide +kernel
theorem zd_CG_variables_1 : decode zc_CG_variables 1 = .ok (.iconst 1, 1) := by decide +kernel
theorem zd_CG_variables_2 : decode zc_CG_variables 2 = .ok (.if_icmp .lt 9, 3) := by decide +kernel
theorem zd_CG_variables_5 : decode zc_CG_variables 5 = .ok (.iload_n 1, 1) := by decide +kernel
theorem zd_CG_variables_6 : decode zc_CG_variables 6 = .ok (.bipush 80, 2) := by decide +kernel
theorem zd_CG_variables_8 : decode zc_CG_variables 8 = .ok (.if_icmp .le 13, 3) := by decide +kernel
theorem zd_CG_variables_11 : decode zc_CG_variables 11 = .ok (.new 28, 3) := by decide +kernel
theorem zd_CG_variables_14 : decode zc_CG_variables 14 = .ok (.dup, 1) := by decide +kernel
theorem zd_CG_variables_15 : decode zc_CG_variables 15 = .ok (.ldc 117, 2) := by decide +kernel
theorem zd_CG_variables_17 : decode zc_CG_variables 17 = .ok (.invokespecial 32, 3) := by decide +kernel
theorem zd_CG_variables_20 : decode zc_CG_variables 20 = .ok (.athrow, 1) := by decide +kernel
theorem zd_CG_variables_21 : decode zc_CG_variables 21 = .ok (.aload_n 0, 1) := by decide +kernel
theorem zd_CG_variables_22 : decode zc_CG_variables 22 = .ok (.getfield 24, 3) := by decide +kernel
theorem zd_CG_variables_25 : decode zc_CG_variables 25 = .ok (.iload_n 1, 1) := by decide +kernel
theorem zd_CG_variables_26 : decode zc_CG_variables 26 = .ok (.invokevirtual 119, 3) := by decide +kernel
theorem zd_CG_variables_29 : decode zc_CG_variables 29 = .ok (.return_, 1) := by decide +kernel
theorem zd_LA_clause_0 : decode zc_LA_clause 0 = .ok (.aload_n 3, 1) := by decide +kernel
theorem zd_LA_clause_1 : decode zc_LA_clause 1 = .ok (.iconst 0, 1) := by decide +kernel
theorem zd_LA_clause_2 : decode zc_LA_clause 2 = .ok (.aload_n 0, 1) := by decide +kernel
theorem zd_LA_clause_3 : decode zc_LA_clause 3 = .ok (.iload_n 1, 1) := by decide +kernel
theorem zd_LA_clause_4 : decode zc_LA_clause 4 = .ok (.iload_n 2, 1) := by decide +kernel
theorem zd_LA_clause_5 : decode zc_LA_clause 5 = .ok (.invokevirtual 44, 3) := by decide +kernel
theorem zd_LA_clause_8 : decode zc_LA_clause 8 = .ok (.i2l, 1) := by decide +kernel
theorem zd_LA_clause_9 : decode zc_LA_clause 9 = .ok (.lastore, 1) := by decide +kernel
theorem zd_LA_clause_10 : decode zc_LA_clause 10 = .ok (.goto 7, 3) := by decide +kernel
theorem zd_LA_clause_13 : decode zc_LA_clause 13 = .ok (.astore 4, 2) := by decide +kernel
theorem zd_LA_clause_15 : decode zc_LA_clause 15 = .ok (.iconst 1, 1) := by decide +kernel
theorem zd_LA_clause_16 : decode zc_LA_clause 16 = .ok (.ireturn, 1) := by decide +kernel
theorem zd_LA_clause_17 : decode zc_LA_clause 17 = .ok (.iconst 0, 1) := by decide +kernel
theorem zd_LA_clause_18 : decode zc_LA_clause 18 = .ok (.ireturn, 1) := by decide +kernel
theorem zd_CG_clause_0 : decode zc_CG_clause 0 = .ok (.aload_n 0, 1) := by decide +kernel
theorem zd_CG_clause_1 : decode zc_CG_clause 1 = .ok (.iload_n 1, 1) := by decide +kernel
theorem zd_CG_clause_2 : decode zc_CG_clause 2 = .ok (.invokevirtual 120, 3) := by decide +kernel
theorem zd_CG_clause_5 : decode zc_CG_clause 5 = .ok (.aload_n 0, 1) := by decide +kernel
theorem zd_CG_clause_6 : decode zc_CG_clause 6 = .ok (.iload_n 2, 1) := by decide +kernel
theorem zd_CG_clause_7 : decode zc_CG_clause 7 = .ok (.invokevirtual 120, 3) := by decide +kernel
theorem zd_CG_clause_10 : decode zc_CG_clause 10 = .ok (.aload_n 0, 1) := by decide +kernel
theorem zd_CG_clause_11 : decode zc_CG_clause 11 = .ok (.getfield 24, 3) := by decide +kernel
theorem zd_CG_clause_14 : decode zc_CG_clause 14 = .ok (.iload_n 1, 1) := by decide +kernel
theorem zd_CG_clause_15 : decode zc_CG_clause 15 = .ok (.invokestatic 123, 3) := by decide +kernel
theorem zd_CG_clause_18 : decode zc_CG_clause 18 = .ok (.iload_n 2, 1) := by decide +kernel
theorem zd_CG_clause_19 : decode zc_CG_clause 19 = .ok (.invokestatic 123, 3) := by decide +kernel
theorem zd_CG_clause_22 : decode zc_CG_clause 22 = .ok (.invokevirtual 126, 3) := by decide +kernel
theorem zd_CG_clause_25 : decode zc_CG_clause 25 = .ok (.ireturn, 1) := by decide +kernel
theorem zd_CG_needLiteral_0 : decode zc_CG_needLiteral 0 = .ok (.iload_n 1, 1) := by decide +kernel
theorem zd_CG_needLiteral_1 : decode zc_CG_needLiteral 1 = .ok (.ifCond .eq 26, 3) := by decide +kernel
theorem zd_CG_needLiteral_4 : decode zc_CG_needLiteral 4 = .ok (.iload_n 1, 1) := by decide +kernel
theorem zd_CG_needLiteral_5 : decode zc_CG_needLiteral 5 = .ok (.aload_n 0, 1) := by decide +kernel
theorem zd_CG_needLiteral_6 : decode zc_CG_needLiteral 6 = .ok (.getfield 24, 3) := by decide +kernel
theorem zd_CG_needLiteral_9 : decode zc_CG_needLiteral 9 = .ok (.getfield 171, 3) := by decide +kernel
theorem zd_CG_needLiteral_12 : decode zc_CG_needLiteral 12 = .ok (.ineg, 1) := by decide +kernel
theorem zd_CG_needLiteral_13 : decode zc_CG_needLiteral 13 = .ok (.if_icmp .lt 14, 3) := by decide +kernel
theorem zd_CG_needLiteral_16 : decode zc_CG_needLiteral 16 = .ok (.iload_n 1, 1) := by decide +kernel
theorem zd_CG_needLiteral_17 : decode zc_CG_needLiteral 17 = .ok (.aload_n 0, 1) := by decide +kernel
theorem zd_CG_needLiteral_18 : decode zc_CG_needLiteral 18 = .ok (.getfield 24, 3) := by decide +kernel
theorem zd_CG_needLiteral_21 : decode zc_CG_needLiteral 21 = .ok (.getfield 171, 3) := by decide +kernel
theorem zd_CG_needLiteral_24 : decode zc_CG_needLiteral 24 = .ok (.if_icmp .le 13, 3) := by decide +kernel
theorem zd_CG_needLiteral_27 : decode zc_CG_needLiteral 27 = .ok (.new 28, 3) := by decide +kernel
theorem zd_CG_needLiteral_30 : decode zc_CG_needLiteral 30 = .ok (.dup, 1) := by decide +kernel
theorem zd_CG_needLiteral_31 : decode zc_CG_needLiteral 31 = .ok (.ldc 176, 2) := by decide +kernel
theorem zd_CG_needLiteral_33 : decode zc_CG_needLiteral 33 = .ok (.invokespecial 32, 3) := by decide +kernel
theorem zd_CG_needLiteral_36 : decode zc_CG_needLiteral 36 = .ok (.athrow, 1) := by decide +kernel
theorem zd_CG_needLiteral_37 : decode zc_CG_needLiteral 37 = .ok (.return_, 1) := by decide +kernel
theorem zd_CR_add_0 : decode zc_CR_add 0 = .ok (.aload_n 0, 1) := by decide +kernel
theorem zd_CR_add_1 : decode zc_CR_add 1 = .ok (.getfield 51, 3) := by decide +kernel
theorem zd_CR_add_4 : decode zc_CR_add 4 = .ok (.sipush 400, 3) := by decide +kernel
theorem zd_CR_add_7 : decode zc_CR_add 7 = .ok (.if_icmp .lt 5, 3) := by decide +kernel
theorem zd_CR_add_10 : decode zc_CR_add 10 = .ok (.iconst (-1), 1) := by decide +kernel
theorem zd_CR_add_11 : decode zc_CR_add 11 = .ok (.ireturn, 1) := by decide +kernel
theorem zd_CR_add_12 : decode zc_CR_add 12 = .ok (.aload_n 0, 1) := by decide +kernel
theorem zd_CR_add_13 : decode zc_CR_add 13 = .ok (.getfield 9, 3) := by decide +kernel
theorem zd_CR_add_16 : decode zc_CR_add 16 = .ok (.aload_n 0, 1) := by decide +kernel
theorem zd_CR_add_17 : decode zc_CR_add 17 = .ok (.getfield 51, 3) := by decide +kernel
theorem zd_CR_add_20 : decode zc_CR_add 20 = .ok (.iload_n 1, 1) := by decide +kernel
theorem zd_CR_add_21 : decode zc_CR_add 21 = .ok (.iastore, 1) := by decide +kernel
theorem zd_CR_add_22 : decode zc_CR_add 22 = .ok (.aload_n 0, 1) := by decide +kernel
theorem zd_CR_add_23 : decode zc_CR_add 23 = .ok (.getfield 15, 3) := by decide +kernel
theorem zd_CR_add_26 : decode zc_CR_add 26 = .ok (.aload_n 0, 1) := by decide +kernel
theorem zd_CR_add_27 : decode zc_CR_add 27 = .ok (.getfield 51, 3) := by decide +kernel
theorem zd_CR_add_30 : decode zc_CR_add 30 = .ok (.iload_n 2, 1) := by decide +kernel
theorem zd_CR_add_31 : decode zc_CR_add 31 = .ok (.iastore, 1) := by decide +kernel
theorem zd_CR_add_32 : decode zc_CR_add 32 = .ok (.aload_n 0, 1) := by decide +kernel
theorem zd_CR_add_33 : decode zc_CR_add 33 = .ok (.dup, 1) := by decide +kernel
theorem zd_CR_add_34 : decode zc_CR_add 34 = .ok (.getfield 51, 3) := by decide +kernel
theorem zd_CR_add_37 : decode zc_CR_add 37 = .ok (.iconst 1, 1) := by decide +kernel
theorem zd_CR_add_38 : decode zc_CR_add 38 = .ok (.iadd, 1) := by decide +kernel
theorem zd_CR_add_39 : decode zc_CR_add 39 = .ok (.putfield 51, 3) := by decide +kernel
theorem zd_CR_add_42 : decode zc_CR_add 42 = .ok (.aload_n 0, 1) := by decide +kernel
theorem zd_CR_add_43 : decode zc_CR_add 43 = .ok (.iconst 0, 1) := by decide +kernel
theorem zd_CR_add_44 : decode zc_CR_add 44 = .ok (.putfield 57, 3) := by decide +kernel
theorem zd_CR_add_47 : decode zc_CR_add 47 = .ok (.aload_n 0, 1) := by decide +kernel
theorem zd_CR_add_48 : decode zc_CR_add 48 = .ok (.getfield 51, 3) := by decide +kernel
theorem zd_CR_add_51 : decode zc_CR_add 51 = .ok (.ireturn, 1) := by decide +kernel
theorem zd_LA_drop_0 : decode zc_LA_drop 0 = .ok (.aload_n 0, 1) := by decide +kernel
theorem zd_LA_drop_1 : decode zc_LA_drop 1 = .ok (.iload_n 1, 1) := by decide +kernel
theorem zd_LA_drop_2 : decode zc_LA_drop 2 = .ok (.invokevirtual 47, 3) := by decide +kernel
theorem zd_LA_drop_5 : decode zc_LA_drop 5 = .ok (.goto 6, 3) := by decide +kernel
theorem zd_LA_drop_8 : decode zc_LA_drop 8 = .ok (.astore_n 2, 1) := by decide +kernel
theorem zd_LA_drop_9 : decode zc_LA_drop 9 = .ok (.iconst 1, 1) := by decide +kernel
theorem zd_LA_drop_10 : decode zc_LA_drop 10 = .ok (.ireturn, 1) := by decide +kernel
theorem zd_LA_drop_11 : decode zc_LA_drop 11 = .ok (.iconst 0, 1) := by decide +kernel
theorem zd_LA_drop_12 : decode zc_LA_drop 12 = .ok (.ireturn, 1) := by decide +kernel
theorem zd_CG_drop_0 : decode zc_CG_drop 0 = .ok (.iload_n 1, 1) := by decide +kernel
theorem zd_CG_drop_1 : decode zc_CG_drop 1 = .ok (.ifCond .lt 14, 3) := by decide +kernel
theorem zd_CG_drop_4 : decode zc_CG_drop 4 = .ok (.iload_n 1, 1) := by decide +kernel
theorem zd_CG_drop_5 : decode zc_CG_drop 5 = .ok (.aload_n 0, 1) := by decide +kernel
theorem zd_CG_drop_6 : decode zc_CG_drop 6 = .ok (.getfield 24, 3) := by decide +kernel
theorem zd_CG_drop_9 : decode zc_CG_drop 9 = .ok (.getfield 127, 3) := by decide +kernel
theorem zd_CG_drop_12 : decode zc_CG_drop 12 = .ok (.if_icmp .lt 13, 3) := by decide +kernel
theorem zd_CG_drop_15 : decode zc_CG_drop 15 = .ok (.new 64, 3) := by decide +kernel
theorem zd_CG_drop_18 : decode zc_CG_drop 18 = .ok (.dup, 1) := by decide +kernel
theorem zd_CG_drop_19 : decode zc_CG_drop 19 = .ok (.ldc 128, 2) := by decide +kernel
theorem zd_CG_drop_21 : decode zc_CG_drop 21 = .ok (.invokespecial 68, 3) := by decide +kernel
theorem zd_CG_drop_24 : decode zc_CG_drop 24 = .ok (.athrow, 1) := by decide +kernel
theorem zd_CG_drop_25 : decode zc_CG_drop 25 = .ok (.aload_n 0, 1) := by decide +kernel
theorem zd_CG_drop_26 : decode zc_CG_drop 26 = .ok (.getfield 24, 3) := by decide +kernel
theorem zd_CG_drop_29 : decode zc_CG_drop 29 = .ok (.iload_n 1, 1) := by decide +kernel
theorem zd_CG_drop_30 : decode zc_CG_drop 30 = .ok (.invokevirtual 130, 3) := by decide +kernel
theorem zd_CG_drop_33 : decode zc_CG_drop 33 = .ok (.return_, 1) := by decide +kernel
theorem zd_CR_remove_0 : decode zc_CR_remove 0 = .ok (.aload_n 0, 1) := by decide +kernel
theorem zd_CR_remove_1 : decode zc_CR_remove 1 = .ok (.dup, 1) := by decide +kernel
theorem zd_CR_remove_2 : decode zc_CR_remove 2 = .ok (.getfield 51, 3) := by decide +kernel
theorem zd_CR_remove_5 : decode zc_CR_remove 5 = .ok (.iconst 1, 1) := by decide +kernel
theorem zd_CR_remove_6 : decode zc_CR_remove 6 = .ok (.isub, 1) := by decide +kernel
theorem zd_CR_remove_7 : decode zc_CR_remove 7 = .ok (.putfield 51, 3) := by decide +kernel
theorem zd_CR_remove_10 : decode zc_CR_remove 10 = .ok (.aload_n 0, 1) := by decide +kernel
theorem zd_CR_remove_11 : decode zc_CR_remove 11 = .ok (.getfield 9, 3) := by decide +kernel
theorem zd_CR_remove_14 : decode zc_CR_remove 14 = .ok (.iload_n 1, 1) := by decide +kernel
theorem zd_CR_remove_15 : decode zc_CR_remove 15 = .ok (.iconst 1, 1) := by decide +kernel
theorem zd_CR_remove_16 : decode zc_CR_remove 16 = .ok (.iadd, 1) := by decide +kernel
theorem zd_CR_remove_17 : decode zc_CR_remove 17 = .ok (.aload_n 0, 1) := by decide +kernel
theorem zd_CR_remove_18 : decode zc_CR_remove 18 = .ok (.getfield 9, 3) := by decide +kernel
theorem zd_CR_remove_21 : decode zc_CR_remove 21 = .ok (.iload_n 1, 1) := by decide +kernel
theorem zd_CR_remove_22 : decode zc_CR_remove 22 = .ok (.aload_n 0, 1) := by decide +kernel
theorem zd_CR_remove_23 : decode zc_CR_remove 23 = .ok (.getfield 51, 3) := by decide +kernel
theorem zd_CR_remove_26 : decode zc_CR_remove 26 = .ok (.iload_n 1, 1) := by decide +kernel
theorem zd_CR_remove_27 : decode zc_CR_remove 27 = .ok (.isub, 1) := by decide +kernel
theorem zd_CR_remove_28 : decode zc_CR_remove 28 = .ok (.invokestatic 61, 3) := by decide +kernel
theorem zd_CR_remove_31 : decode zc_CR_remove 31 = .ok (.aload_n 0, 1) := by decide +kernel
theorem zd_CR_remove_32 : decode zc_CR_remove 32 = .ok (.getfield 15, 3) := by decide +kernel
theorem zd_CR_remove_35 : decode zc_CR_remove 35 = .ok (.iload_n 1, 1) := by decide +kernel
theorem zd_CR_remove_36 : decode zc_CR_remove 36 = .ok (.iconst 1, 1) := by decide +kernel
theorem zd_CR_remove_37 : decode zc_CR_remove 37 = .ok (.iadd, 1) := by decide +kernel
theorem zd_CR_remove_38 : decode zc_CR_remove 38 = .ok (.aload_n 0, 1) := by decide +kernel
theorem zd_CR_remove_39 : decode zc_CR_remove 39 = .ok (.getfield 15, 3) := by decide +kernel
theorem zd_CR_remove_42 : decode zc_CR_remove 42 = .ok (.iload_n 1, 1) := by decide +kernel
theorem zd_CR_remove_43 : decode zc_CR_remove 43 = .ok (.aload_n 0, 1) := by decide +kernel
theorem zd_CR_remove_44 : decode zc_CR_remove 44 = .ok (.getfield 51, 3) := by decide +kernel
theorem zd_CR_remove_47 : decode zc_CR_remove 47 = .ok (.iload_n 1, 1) := by decide +kernel
theorem zd_CR_remove_48 : decode zc_CR_remove 48 = .ok (.isub, 1) := by decide +kernel
theorem zd_CR_remove_49 : decode zc_CR_remove 49 = .ok (.invokestatic 61, 3) := by decide +kernel
theorem zd_CR_remove_52 : decode zc_CR_remove 52 = .ok (.aload_n 0, 1) := by decide +kernel
theorem zd_CR_remove_53 : decode zc_CR_remove 53 = .ok (.invokevirtual 54, 3) := by decide +kernel
theorem zd_CR_remove_56 : decode zc_CR_remove 56 = .ok (.return_, 1) := by decide +kernel
theorem zd_LA_value_0 : decode zc_LA_value 0 = .ok (.aload_n 2, 1) := by decide +kernel
theorem zd_LA_value_1 : decode zc_LA_value 1 = .ok (.iconst 0, 1) := by decide +kernel
theorem zd_LA_value_2 : decode zc_LA_value 2 = .ok (.aload_n 0, 1) := by decide +kernel
theorem zd_LA_value_3 : decode zc_LA_value 3 = .ok (.iload_n 1, 1) := by decide +kernel
theorem zd_LA_value_4 : decode zc_LA_value 4 = .ok (.invokevirtual 50, 3) := by decide +kernel
theorem zd_LA_value_7 : decode zc_LA_value 7 = .ok (.i2l, 1) := by decide +kernel
theorem zd_LA_value_8 : decode zc_LA_value 8 = .ok (.lastore, 1) := by decide +kernel
theorem zd_LA_value_9 : decode zc_LA_value 9 = .ok (.goto 9, 3) := by decide +kernel
theorem zd_LA_value_12 : decode zc_LA_value 12 = .ok (.astore_n 3, 1) := by decide +kernel
theorem zd_LA_value_13 : decode zc_LA_value 13 = .ok (.iconst 1, 1) := by decide +kernel
theorem zd_LA_value_14 : decode zc_LA_value 14 = .ok (.ireturn, 1) := by decide +kernel
theorem zd_LA_value_15 : decode zc_LA_value 15 = .ok (.astore_n 3, 1) := by decide +kernel
theorem zd_LA_value_16 : decode zc_LA_value 16 = .ok (.iconst 2, 1) := by decide +kernel
theorem zd_LA_value_17 : decode zc_LA_value 17 = .ok (.ireturn, 1) := by decide +kernel
theorem zd_LA_value_18 : decode zc_LA_value 18 = .ok (.iconst 0, 1) := by decide +kernel
theorem zd_LA_value_19 : decode zc_LA_value 19 = .ok (.ireturn, 1) := by decide +kernel
theorem zd_CG_value_0 : decode zc_CG_value 0 = .ok (.aload_n 0, 1) := by decide +kernel
theorem zd_CG_value_1 : decode zc_CG_value 1 = .ok (.iload_n 1, 1) := by decide +kernel
theorem zd_CG_value_2 : decode zc_CG_value 2 = .ok (.invokevirtual 135, 3) := by decide +kernel
theorem zd_CG_value_5 : decode zc_CG_value 5 = .ok (.aload_n 0, 1) := by decide +kernel
theorem zd_CG_value_6 : decode zc_CG_value 6 = .ok (.invokevirtual 138, 3) := by decide +kernel
theorem zd_CG_value_9 : decode zc_CG_value 9 = .ok (.aload_n 0, 1) := by decide +kernel
theorem zd_CG_value_10 : decode zc_CG_value 10 = .ok (.getfield 24, 3) := by decide +kernel
theorem zd_CG_value_13 : decode zc_CG_value 13 = .ok (.iload_n 1, 1) := by decide +kernel
theorem zd_CG_value_14 : decode zc_CG_value 14 = .ok (.invokevirtual 141, 3) := by decide +kernel
theorem zd_CG_value_17 : decode zc_CG_value 17 = .ok (.ireturn, 1) := by decide +kernel
theorem zd_CG_needVariable_0 : decode zc_CG_needVariable 0 = .ok (.iload_n 1, 1) := by decide +kernel
theorem zd_CG_needVariable_1 : decode zc_CG_needVariable 1 = .ok (.iconst 1, 1) := by decide +kernel
theorem zd_CG_needVariable_2 : decode zc_CG_needVariable 2 = .ok (.if_icmp .lt 14, 3) := by decide +kernel
theorem zd_CG_needVariable_5 : decode zc_CG_needVariable 5 = .ok (.iload_n 1, 1) := by decide +kernel
theorem zd_CG_needVariable_6 : decode zc_CG_needVariable 6 = .ok (.aload_n 0, 1) := by decide +kernel
theorem zd_CG_needVariable_7 : decode zc_CG_needVariable 7 = .ok (.getfield 24, 3) := by decide +kernel
theorem zd_CG_needVariable_10 : decode zc_CG_needVariable 10 = .ok (.getfield 171, 3) := by decide +kernel
theorem zd_CG_needVariable_13 : decode zc_CG_needVariable 13 = .ok (.if_icmp .le 13, 3) := by decide +kernel
theorem zd_CG_needVariable_16 : decode zc_CG_needVariable 16 = .ok (.new 28, 3) := by decide +kernel
theorem zd_CG_needVariable_19 : decode zc_CG_needVariable 19 = .ok (.dup, 1) := by decide +kernel
theorem zd_CG_needVariable_20 : decode zc_CG_needVariable 20 = .ok (.ldc 174, 2) := by decide +kernel
theorem zd_CG_needVariable_22 : decode zc_CG_needVariable 22 = .ok (.invokespecial 32, 3) := by decide +kernel
theorem zd_CG_needVariable_25 : decode zc_CG_needVariable 25 = .ok (.athrow, 1) := by decide +kernel
theorem zd_CG_needVariable_26 : decode zc_CG_needVariable 26 = .ok (.return_, 1) := by decide +kernel
theorem zd_CG_needGood_0 : decode zc_CG_needGood 0 = .ok (.aload_n 0, 1) := by decide +kernel
theorem zd_CG_needGood_1 : decode zc_CG_needGood 1 = .ok (.getfield 24, 3) := by decide +kernel
theorem zd_CG_needGood_4 : decode zc_CG_needGood 4 = .ok (.invokevirtual 132, 3) := by decide +kernel
theorem zd_CG_needGood_7 : decode zc_CG_needGood 7 = .ok (.iconst (-1), 1) := by decide +kernel
theorem zd_CG_needGood_8 : decode zc_CG_needGood 8 = .ok (.if_icmp .eq 13, 3) := by decide +kernel
theorem zd_CG_needGood_11 : decode zc_CG_needGood 11 = .ok (.new 178, 3) := by decide +kernel
theorem zd_CG_needGood_14 : decode zc_CG_needGood 14 = .ok (.dup, 1) := by decide +kernel
theorem zd_CG_needGood_15 : decode zc_CG_needGood 15 = .ok (.ldc 180, 2) := by decide +kernel
theorem zd_CG_needGood_17 : decode zc_CG_needGood 17 = .ok (.invokespecial 182, 3) := by decide +kernel
theorem zd_CG_needGood_20 : decode zc_CG_needGood 20 = .ok (.athrow, 1) := by decide +kernel
theorem zd_CG_needGood_21 : decode zc_CG_needGood 21 = .ok (.return_, 1) := by decide +kernel
theorem zd_CR_leastValue_0 : decode zc_CR_leastValue 0 = .ok (.aload_n 0, 1) := by decide +kernel
theorem zd_CR_leastValue_1 : decode zc_CR_leastValue 1 = .ok (.getfield 41, 3) := by decide +kernel
theorem zd_CR_leastValue_4 : decode zc_CR_leastValue 4 = .ok (.invokevirtual 67, 3) := by decide +kernel
theorem zd_CR_leastValue_7 : decode zc_CR_leastValue 7 = .ok (.iconst 1, 1) := by decide +kernel
theorem zd_CR_leastValue_8 : decode zc_CR_leastValue 8 = .ok (.istore_n 2, 1) := by decide +kernel
theorem zd_CR_leastValue_9 : decode zc_CR_leastValue 9 = .ok (.iload_n 2, 1) := by decide +kernel
theorem zd_CR_leastValue_10 : decode zc_CR_leastValue 10 = .ok (.iload_n 1, 1) := by decide +kernel
theorem zd_CR_leastValue_11 : decode zc_CR_leastValue 11 = .ok (.if_icmp .gt 70, 3) := by decide +kernel
theorem zd_CR_leastValue_14 : decode zc_CR_leastValue 14 = .ok (.iload_n 2, 1) := by decide +kernel
theorem zd_CR_leastValue_15 : decode zc_CR_leastValue 15 = .ok (.invokestatic 102, 3) := by decide +kernel
theorem zd_CR_leastValue_18 : decode zc_CR_leastValue 18 = .ok (.istore_n 3, 1) := by decide +kernel
theorem zd_CR_leastValue_19 : decode zc_CR_leastValue 19 = .ok (.iload_n 3, 1) := by decide +kernel
theorem zd_CR_leastValue_20 : decode zc_CR_leastValue 20 = .ok (.invokestatic 80, 3) := by decide +kernel
theorem zd_CR_leastValue_23 : decode zc_CR_leastValue 23 = .ok (.istore 4, 2) := by decide +kernel
theorem zd_CR_leastValue_25 : decode zc_CR_leastValue 25 = .ok (.aload_n 0, 1) := by decide +kernel
theorem zd_CR_leastValue_26 : decode zc_CR_leastValue 26 = .ok (.getfield 41, 3) := by decide +kernel
theorem zd_CR_leastValue_29 : decode zc_CR_leastValue 29 = .ok (.iconst 0, 1) := by decide +kernel
theorem zd_CR_leastValue_30 : decode zc_CR_leastValue 30 = .ok (.iload_n 3, 1) := by decide +kernel
theorem zd_CR_leastValue_31 : decode zc_CR_leastValue 31 = .ok (.invokevirtual 105, 3) := by decide +kernel
theorem zd_CR_leastValue_34 : decode zc_CR_leastValue 34 = .ok (.ifCond .ne 41, 3) := by decide +kernel
theorem zd_CR_leastValue_37 : decode zc_CR_leastValue 37 = .ok (.aload_n 0, 1) := by decide +kernel
theorem zd_CR_leastValue_38 : decode zc_CR_leastValue 38 = .ok (.getfield 41, 3) := by decide +kernel
theorem zd_CR_leastValue_41 : decode zc_CR_leastValue 41 = .ok (.iconst 0, 1) := by decide +kernel
theorem zd_CR_leastValue_42 : decode zc_CR_leastValue 42 = .ok (.iload 4, 2) := by decide +kernel
theorem zd_CR_leastValue_44 : decode zc_CR_leastValue 44 = .ok (.invokevirtual 105, 3) := by decide +kernel
theorem zd_CR_leastValue_47 : decode zc_CR_leastValue 47 = .ok (.ifCond .ne 28, 3) := by decide +kernel
theorem zd_CR_leastValue_50 : decode zc_CR_leastValue 50 = .ok (.aload_n 0, 1) := by decide +kernel
theorem zd_CR_leastValue_51 : decode zc_CR_leastValue 51 = .ok (.getfield 30, 3) := by decide +kernel
theorem zd_CR_leastValue_54 : decode zc_CR_leastValue 54 = .ok (.aload_n 0, 1) := by decide +kernel
theorem zd_CR_leastValue_55 : decode zc_CR_leastValue 55 = .ok (.iload_n 3, 1) := by decide +kernel
theorem zd_CR_leastValue_56 : decode zc_CR_leastValue 56 = .ok (.invokevirtual 98, 3) := by decide +kernel
theorem zd_CR_leastValue_59 : decode zc_CR_leastValue 59 = .ok (.ifCond .eq 7, 3) := by decide +kernel
theorem zd_CR_leastValue_62 : decode zc_CR_leastValue 62 = .ok (.iload_n 3, 1) := by decide +kernel
theorem zd_CR_leastValue_63 : decode zc_CR_leastValue 63 = .ok (.goto 5, 3) := by decide +kernel
theorem zd_CR_leastValue_66 : decode zc_CR_leastValue 66 = .ok (.iload 4, 2) := by decide +kernel
theorem zd_CR_leastValue_68 : decode zc_CR_leastValue 68 = .ok (.aload_n 0, 1) := by decide +kernel
theorem zd_CR_leastValue_69 : decode zc_CR_leastValue 69 = .ok (.getfield 41, 3) := by decide +kernel
theorem zd_CR_leastValue_72 : decode zc_CR_leastValue 72 = .ok (.invokevirtual 108, 3) := by decide +kernel
theorem zd_CR_leastValue_75 : decode zc_CR_leastValue 75 = .ok (.iinc 2 1, 3) := by decide +kernel
theorem zd_CR_leastValue_78 : decode zc_CR_leastValue 78 = .ok (.goto (-69), 3) := by decide +kernel
theorem zd_CR_leastValue_81 : decode zc_CR_leastValue 81 = .ok (.aload_n 0, 1) := by decide +kernel
theorem zd_CR_leastValue_82 : decode zc_CR_leastValue 82 = .ok (.getfield 41, 3) := by decide +kernel
theorem zd_CR_leastValue_85 : decode zc_CR_leastValue 85 = .ok (.iconst 0, 1) := by decide +kernel
theorem zd_CR_leastValue_86 : decode zc_CR_leastValue 86 = .ok (.iload_n 1, 1) := by decide +kernel
theorem zd_CR_leastValue_87 : decode zc_CR_leastValue 87 = .ok (.invokestatic 102, 3) := by decide +kernel
theorem zd_CR_leastValue_90 : decode zc_CR_leastValue 90 = .ok (.invokevirtual 105, 3) := by decide +kernel
theorem zd_CR_leastValue_93 : decode zc_CR_leastValue 93 = .ok (.ifCond .eq 7, 3) := by decide +kernel
theorem zd_CR_leastValue_96 : decode zc_CR_leastValue 96 = .ok (.iconst 1, 1) := by decide +kernel
theorem zd_CR_leastValue_97 : decode zc_CR_leastValue 97 = .ok (.goto 4, 3) := by decide +kernel
theorem zd_CR_leastValue_100 : decode zc_CR_leastValue 100 = .ok (.iconst 0, 1) := by decide +kernel
theorem zd_CR_leastValue_101 : decode zc_CR_leastValue 101 = .ok (.ireturn, 1) := by decide +kernel
theorem zd_CR_isTrueAlways_0 : decode zc_CR_isTrueAlways 0 = .ok (.aload_n 0, 1) := by decide +kernel
theorem zd_CR_isTrueAlways_1 : decode zc_CR_isTrueAlways 1 = .ok (.getfield 30, 3) := by decide +kernel
theorem zd_CR_isTrueAlways_4 : decode zc_CR_isTrueAlways 4 = .ok (.iload_n 1, 1) := by decide +kernel
theorem zd_CR_isTrueAlways_5 : decode zc_CR_isTrueAlways 5 = .ok (.invokestatic 80, 3) := by decide +kernel
theorem zd_CR_isTrueAlways_8 : decode zc_CR_isTrueAlways 8 = .ok (.iload_n 1, 1) := by decide +kernel
theorem zd_CR_isTrueAlways_9 : decode zc_CR_isTrueAlways 9 = .ok (.invokevirtual 95, 3) := by decide +kernel
theorem zd_CR_isTrueAlways_12 : decode zc_CR_isTrueAlways 12 = .ok (.ireturn, 1) := by decide +kernel
theorem zd_RE_joinAhead_0 : decode zc_RE_joinAhead 0 = .ok (.aload_n 2, 1) := by decide +kernel
theorem zd_RE_joinAhead_1 : decode zc_RE_joinAhead 1 = .ok (.iconst 0, 1) := by decide +kernel
theorem zd_RE_joinAhead_2 : decode zc_RE_joinAhead 2 = .ok (.aload_n 0, 1) := by decide +kernel
theorem zd_RE_joinAhead_3 : decode zc_RE_joinAhead 3 = .ok (.getfield 14, 3) := by decide +kernel
theorem zd_RE_joinAhead_6 : decode zc_RE_joinAhead 6 = .ok (.iload_n 1, 1) := by decide +kernel
theorem zd_RE_joinAhead_7 : decode zc_RE_joinAhead 7 = .ok (.invokevirtual 42, 3) := by decide +kernel
theorem zd_RE_joinAhead_10 : decode zc_RE_joinAhead 10 = .ok (.return_, 1) := by decide +kernel
theorem zd_LA_fixed_0 : decode zc_LA_fixed 0 = .ok (.aload_n 2, 1) := by decide +kernel
theorem zd_LA_fixed_1 : decode zc_LA_fixed 1 = .ok (.iconst 0, 1) := by decide +kernel
theorem zd_LA_fixed_2 : decode zc_LA_fixed 2 = .ok (.aload_n 0, 1) := by decide +kernel
theorem zd_LA_fixed_3 : decode zc_LA_fixed 3 = .ok (.iload_n 1, 1) := by decide +kernel
theorem zd_LA_fixed_4 : decode zc_LA_fixed 4 = .ok (.invokevirtual 55, 3) := by decide +kernel
theorem zd_LA_fixed_7 : decode zc_LA_fixed 7 = .ok (.i2l, 1) := by decide +kernel
theorem zd_LA_fixed_8 : decode zc_LA_fixed 8 = .ok (.lastore, 1) := by decide +kernel
theorem zd_LA_fixed_9 : decode zc_LA_fixed 9 = .ok (.goto 9, 3) := by decide +kernel
theorem zd_LA_fixed_12 : decode zc_LA_fixed 12 = .ok (.astore_n 3, 1) := by decide +kernel
theorem zd_LA_fixed_13 : decode zc_LA_fixed 13 = .ok (.iconst 1, 1) := by decide +kernel
theorem zd_LA_fixed_14 : decode zc_LA_fixed 14 = .ok (.ireturn, 1) := by decide +kernel
theorem zd_LA_fixed_15 : decode zc_LA_fixed 15 = .ok (.astore_n 3, 1) := by decide +kernel
theorem zd_LA_fixed_16 : decode zc_LA_fixed 16 = .ok (.iconst 2, 1) := by decide +kernel
theorem zd_LA_fixed_17 : decode zc_LA_fixed 17 = .ok (.ireturn, 1) := by decide +kernel
theorem zd_LA_fixed_18 : decode zc_LA_fixed 18 = .ok (.iconst 0, 1) := by decide +kernel
theorem zd_LA_fixed_19 : decode zc_LA_fixed 19 = .ok (.ireturn, 1) := by decide +kernel
theorem zd_CG_fixed_0 : decode zc_CG_fixed 0 = .ok (.aload_n 0, 1) := by decide +kernel
theorem zd_CG_fixed_1 : decode zc_CG_fixed 1 = .ok (.iload_n 1, 1) := by decide +kernel
theorem zd_CG_fixed_2 : decode zc_CG_fixed 2 = .ok (.invokevirtual 135, 3) := by decide +kernel
theorem zd_CG_fixed_5 : decode zc_CG_fixed 5 = .ok (.aload_n 0, 1) := by decide +kernel
theorem zd_CG_fixed_6 : decode zc_CG_fixed 6 = .ok (.invokevirtual 138, 3) := by decide +kernel
theorem zd_CG_fixed_9 : decode zc_CG_fixed 9 = .ok (.iload_n 1, 1) := by decide +kernel
theorem zd_CG_fixed_10 : decode zc_CG_fixed 10 = .ok (.invokestatic 123, 3) := by decide +kernel
theorem zd_CG_fixed_13 : decode zc_CG_fixed 13 = .ok (.istore_n 2, 1) := by decide +kernel
theorem zd_CG_fixed_14 : decode zc_CG_fixed 14 = .ok (.aload_n 0, 1) := by decide +kernel
theorem zd_CG_fixed_15 : decode zc_CG_fixed 15 = .ok (.getfield 24, 3) := by decide +kernel
theorem zd_CG_fixed_18 : decode zc_CG_fixed 18 = .ok (.iload_n 2, 1) := by decide +kernel
theorem zd_CG_fixed_19 : decode zc_CG_fixed 19 = .ok (.invokevirtual 144, 3) := by decide +kernel
theorem zd_CG_fixed_22 : decode zc_CG_fixed 22 = .ok (.ifCond .eq 5, 3) := by decide +kernel
theorem zd_CG_fixed_25 : decode zc_CG_fixed 25 = .ok (.iconst 1, 1) := by decide +kernel
theorem zd_CG_fixed_26 : decode zc_CG_fixed 26 = .ok (.ireturn, 1) := by decide +kernel
theorem zd_CG_fixed_27 : decode zc_CG_fixed 27 = .ok (.aload_n 0, 1) := by decide +kernel
theorem zd_CG_fixed_28 : decode zc_CG_fixed 28 = .ok (.getfield 24, 3) := by decide +kernel
theorem zd_CG_fixed_31 : decode zc_CG_fixed 31 = .ok (.iload_n 2, 1) := by decide +kernel
theorem zd_CG_fixed_32 : decode zc_CG_fixed 32 = .ok (.invokestatic 148, 3) := by decide +kernel
theorem zd_CG_fixed_35 : decode zc_CG_fixed 35 = .ok (.invokevirtual 144, 3) := by decide +kernel
theorem zd_CG_fixed_38 : decode zc_CG_fixed 38 = .ok (.ifCond .eq 7, 3) := by decide +kernel
theorem zd_CG_fixed_41 : decode zc_CG_fixed 41 = .ok (.iconst 0, 1) := by decide +kernel
theorem zd_CG_fixed_42 : decode zc_CG_fixed 42 = .ok (.goto 4, 3) := by decide +kernel
theorem zd_CG_fixed_45 : decode zc_CG_fixed 45 = .ok (.iconst 2, 1) := by decide +kernel
theorem zd_CG_fixed_46 : decode zc_CG_fixed 46 = .ok (.ireturn, 1) := by decide +kernel
theorem zd_LA_implies_0 : decode zc_LA_implies 0 = .ok (.aload_n 3, 1) := by decide +kernel
theorem zd_LA_implies_1 : decode zc_LA_implies 1 = .ok (.iconst 0, 1) := by decide +kernel
theorem zd_LA_implies_2 : decode zc_LA_implies 2 = .ok (.aload_n 0, 1) := by decide +kernel
theorem zd_LA_implies_3 : decode zc_LA_implies 3 = .ok (.iload_n 1, 1) := by decide +kernel
theorem zd_LA_implies_4 : decode zc_LA_implies 4 = .ok (.iload_n 2, 1) := by decide +kernel
theorem zd_LA_implies_5 : decode zc_LA_implies 5 = .ok (.invokevirtual 58, 3) := by decide +kernel
theorem zd_LA_implies_8 : decode zc_LA_implies 8 = .ok (.ifCond .eq 7, 3) := by decide +kernel
theorem zd_LA_implies_11 : decode zc_LA_implies 11 = .ok (.lconst 1, 1) := by decide +kernel
theorem zd_LA_implies_12 : decode zc_LA_implies 12 = .ok (.goto 4, 3) := by decide +kernel
theorem zd_LA_implies_15 : decode zc_LA_implies 15 = .ok (.lconst 0, 1) := by decide +kernel
theorem zd_LA_implies_16 : decode zc_LA_implies 16 = .ok (.lastore, 1) := by decide +kernel
theorem zd_LA_implies_17 : decode zc_LA_implies 17 = .ok (.goto 11, 3) := by decide +kernel
theorem zd_LA_implies_20 : decode zc_LA_implies 20 = .ok (.astore 4, 2) := by decide +kernel
theorem zd_LA_implies_22 : decode zc_LA_implies 22 = .ok (.iconst 1, 1) := by decide +kernel
theorem zd_LA_implies_23 : decode zc_LA_implies 23 = .ok (.ireturn, 1) := by decide +kernel
theorem zd_LA_implies_24 : decode zc_LA_implies 24 = .ok (.astore 4, 2) := by decide +kernel
theorem zd_LA_implies_26 : decode zc_LA_implies 26 = .ok (.iconst 2, 1) := by decide +kernel
theorem zd_LA_implies_27 : decode zc_LA_implies 27 = .ok (.ireturn, 1) := by decide +kernel
theorem zd_LA_implies_28 : decode zc_LA_implies 28 = .ok (.iconst 0, 1) := by decide +kernel
theorem zd_LA_implies_29 : decode zc_LA_implies 29 = .ok (.ireturn, 1) := by decide +kernel
theorem zd_CG_implies_0 : decode zc_CG_implies 0 = .ok (.aload_n 0, 1) := by decide +kernel
theorem zd_CG_implies_1 : decode zc_CG_implies 1 = .ok (.iload_n 1, 1) := by decide +kernel
theorem zd_CG_implies_2 : decode zc_CG_implies 2 = .ok (.invokevirtual 120, 3) := by decide +kernel
theorem zd_CG_implies_5 : decode zc_CG_implies 5 = .ok (.aload_n 0, 1) := by decide +kernel
theorem zd_CG_implies_6 : decode zc_CG_implies 6 = .ok (.iload_n 2, 1) := by decide +kernel
theorem zd_CG_implies_7 : decode zc_CG_implies 7 = .ok (.invokevirtual 120, 3) := by decide +kernel
theorem zd_CG_implies_10 : decode zc_CG_implies 10 = .ok (.aload_n 0, 1) := by decide +kernel
theorem zd_CG_implies_11 : decode zc_CG_implies 11 = .ok (.invokevirtual 138, 3) := by decide +kernel
theorem zd_CG_implies_14 : decode zc_CG_implies 14 = .ok (.aload_n 0, 1) := by decide +kernel
theorem zd_CG_implies_15 : decode zc_CG_implies 15 = .ok (.getfield 24, 3) := by decide +kernel
theorem zd_CG_implies_18 : decode zc_CG_implies 18 = .ok (.iload_n 1, 1) := by decide +kernel
theorem zd_CG_implies_19 : decode zc_CG_implies 19 = .ok (.invokestatic 123, 3) := by decide +kernel
theorem zd_CG_implies_22 : decode zc_CG_implies 22 = .ok (.iload_n 2, 1) := by decide +kernel
theorem zd_CG_implies_23 : decode zc_CG_implies 23 = .ok (.invokestatic 123, 3) := by decide +kernel
theorem zd_CG_implies_26 : decode zc_CG_implies 26 = .ok (.invokevirtual 151, 3) := by decide +kernel
theorem zd_CG_implies_29 : decode zc_CG_implies 29 = .ok (.ireturn, 1) := by decide +kernel
theorem zd_CR_follows_0 : decode zc_CR_follows 0 = .ok (.aload_n 0, 1) := by decide +kernel
theorem zd_CR_follows_1 : decode zc_CR_follows 1 = .ok (.getfield 30, 3) := by decide +kernel
theorem zd_CR_follows_4 : decode zc_CR_follows 4 = .ok (.iload_n 1, 1) := by decide +kernel
theorem zd_CR_follows_5 : decode zc_CR_follows 5 = .ok (.iload_n 2, 1) := by decide +kernel
theorem zd_CR_follows_6 : decode zc_CR_follows 6 = .ok (.invokevirtual 95, 3) := by decide +kernel
theorem zd_CR_follows_9 : decode zc_CR_follows 9 = .ok (.ifCond .ne 22, 3) := by decide +kernel
theorem zd_CR_follows_12 : decode zc_CR_follows 12 = .ok (.aload_n 0, 1) := by decide +kernel
theorem zd_CR_follows_13 : decode zc_CR_follows 13 = .ok (.iload_n 1, 1) := by decide +kernel
theorem zd_CR_follows_14 : decode zc_CR_follows 14 = .ok (.invokestatic 80, 3) := by decide +kernel
theorem zd_CR_follows_17 : decode zc_CR_follows 17 = .ok (.invokevirtual 98, 3) := by decide +kernel
theorem zd_CR_follows_20 : decode zc_CR_follows 20 = .ok (.ifCond .ne 11, 3) := by decide +kernel
theorem zd_CR_follows_23 : decode zc_CR_follows 23 = .ok (.aload_n 0, 1) := by decide +kernel
theorem zd_CR_follows_24 : decode zc_CR_follows 24 = .ok (.iload_n 2, 1) := by decide +kernel
theorem zd_CR_follows_25 : decode zc_CR_follows 25 = .ok (.invokevirtual 98, 3) := by decide +kernel
theorem zd_CR_follows_28 : decode zc_CR_follows 28 = .ok (.ifCond .eq 7, 3) := by decide +kernel
theorem zd_CR_follows_31 : decode zc_CR_follows 31 = .ok (.iconst 1, 1) := by decide +kernel
theorem zd_CR_follows_32 : decode zc_CR_follows 32 = .ok (.goto 4, 3) := by decide +kernel
theorem zd_CR_follows_35 : decode zc_CR_follows 35 = .ok (.iconst 0, 1) := by decide +kernel
theorem zd_CR_follows_36 : decode zc_CR_follows 36 = .ok (.ireturn, 1) := by decide +kernel
theorem zd_LA_classes_0 : decode zc_LA_classes 0 = .ok (.aload_n 1, 1) := by decide +kernel
theorem zd_LA_classes_1 : decode zc_LA_classes 1 = .ok (.iconst 0, 1) := by decide +kernel
theorem zd_LA_classes_2 : decode zc_LA_classes 2 = .ok (.aload_n 0, 1) := by decide +kernel
theorem zd_LA_classes_3 : decode zc_LA_classes 3 = .ok (.invokevirtual 61, 3) := by decide +kernel
theorem zd_LA_classes_6 : decode zc_LA_classes 6 = .ok (.i2l, 1) := by decide +kernel
theorem zd_LA_classes_7 : decode zc_LA_classes 7 = .ok (.lastore, 1) := by decide +kernel
theorem zd_LA_classes_8 : decode zc_LA_classes 8 = .ok (.goto 6, 3) := by decide +kernel
theorem zd_LA_classes_11 : decode zc_LA_classes 11 = .ok (.astore_n 2, 1) := by decide +kernel
theorem zd_LA_classes_12 : decode zc_LA_classes 12 = .ok (.iconst 1, 1) := by decide +kernel
theorem zd_LA_classes_13 : decode zc_LA_classes 13 = .ok (.ireturn, 1) := by decide +kernel
theorem zd_LA_classes_14 : decode zc_LA_classes 14 = .ok (.iconst 0, 1) := by decide +kernel
theorem zd_LA_classes_15 : decode zc_LA_classes 15 = .ok (.ireturn, 1) := by decide +kernel
theorem zd_CG_classes_0 : decode zc_CG_classes 0 = .ok (.aload_n 0, 1) := by decide +kernel
theorem zd_CG_classes_1 : decode zc_CG_classes 1 = .ok (.invokevirtual 138, 3) := by decide +kernel
theorem zd_CG_classes_4 : decode zc_CG_classes 4 = .ok (.aload_n 0, 1) := by decide +kernel
theorem zd_CG_classes_5 : decode zc_CG_classes 5 = .ok (.getfield 24, 3) := by decide +kernel
theorem zd_CG_classes_8 : decode zc_CG_classes 8 = .ok (.invokevirtual 163, 3) := by decide +kernel
theorem zd_CG_classes_11 : decode zc_CG_classes 11 = .ok (.ireturn, 1) := by decide +kernel
theorem zd_CR_countClasses_0 : decode zc_CR_countClasses 0 = .ok (.iconst 0, 1) := by decide +kernel
theorem zd_CR_countClasses_1 : decode zc_CR_countClasses 1 = .ok (.istore_n 1, 1) := by decide +kernel
theorem zd_CR_countClasses_2 : decode zc_CR_countClasses 2 = .ok (.iconst 0, 1) := by decide +kernel
theorem zd_CR_countClasses_3 : decode zc_CR_countClasses 3 = .ok (.istore_n 2, 1) := by decide +kernel
theorem zd_CR_countClasses_4 : decode zc_CR_countClasses 4 = .ok (.iconst 0, 1) := by decide +kernel
theorem zd_CR_countClasses_5 : decode zc_CR_countClasses 5 = .ok (.istore_n 3, 1) := by decide +kernel
theorem zd_CR_countClasses_6 : decode zc_CR_countClasses 6 = .ok (.iload_n 3, 1) := by decide +kernel
theorem zd_CR_countClasses_7 : decode zc_CR_countClasses 7 = .ok (.iconst 2, 1) := by decide +kernel
theorem zd_CR_countClasses_8 : decode zc_CR_countClasses 8 = .ok (.aload_n 0, 1) := by decide +kernel
theorem zd_CR_countClasses_9 : decode zc_CR_countClasses 9 = .ok (.getfield 47, 3) := by decide +kernel
theorem zd_CR_countClasses_12 : decode zc_CR_countClasses 12 = .ok (.imul, 1) := by decide +kernel
theorem zd_CR_countClasses_13 : decode zc_CR_countClasses 13 = .ok (.if_icmp .ge 48, 3) := by decide +kernel
theorem zd_CR_countClasses_16 : decode zc_CR_countClasses 16 = .ok (.aload_n 0, 1) := by decide +kernel
theorem zd_CR_countClasses_17 : decode zc_CR_countClasses 17 = .ok (.iload_n 3, 1) := by decide +kernel
theorem zd_CR_countClasses_18 : decode zc_CR_countClasses 18 = .ok (.invokevirtual 98, 3) := by decide +kernel
theorem zd_CR_countClasses_21 : decode zc_CR_countClasses 21 = .ok (.ifCond .ne 14, 3) := by decide +kernel
theorem zd_CR_countClasses_24 : decode zc_CR_countClasses 24 = .ok (.aload_n 0, 1) := by decide +kernel
theorem zd_CR_countClasses_25 : decode zc_CR_countClasses 25 = .ok (.iload_n 3, 1) := by decide +kernel
theorem zd_CR_countClasses_26 : decode zc_CR_countClasses 26 = .ok (.invokestatic 80, 3) := by decide +kernel
theorem zd_CR_countClasses_29 : decode zc_CR_countClasses 29 = .ok (.invokevirtual 98, 3) := by decide +kernel
theorem zd_CR_countClasses_32 : decode zc_CR_countClasses 32 = .ok (.ifCond .eq 8, 3) := by decide +kernel
theorem zd_CR_countClasses_35 : decode zc_CR_countClasses 35 = .ok (.iconst 1, 1) := by decide +kernel
theorem zd_CR_countClasses_36 : decode zc_CR_countClasses 36 = .ok (.istore_n 2, 1) := by decide +kernel
theorem zd_CR_countClasses_37 : decode zc_CR_countClasses 37 = .ok (.goto 18, 3) := by decide +kernel
theorem zd_CR_countClasses_40 : decode zc_CR_countClasses 40 = .ok (.aload_n 0, 1) := by decide +kernel
theorem zd_CR_countClasses_41 : decode zc_CR_countClasses 41 = .ok (.getfield 30, 3) := by decide +kernel
theorem zd_CR_countClasses_44 : decode zc_CR_countClasses 44 = .ok (.iload_n 3, 1) := by decide +kernel
theorem zd_CR_countClasses_45 : decode zc_CR_countClasses 45 = .ok (.invokevirtual 112, 3) := by decide +kernel
theorem zd_CR_countClasses_48 : decode zc_CR_countClasses 48 = .ok (.iload_n 3, 1) := by decide +kernel
theorem zd_CR_countClasses_49 : decode zc_CR_countClasses 49 = .ok (.if_icmp .ne 6, 3) := by decide +kernel
theorem zd_CR_countClasses_52 : decode zc_CR_countClasses 52 = .ok (.iinc 1 1, 3) := by decide +kernel
theorem zd_CR_countClasses_55 : decode zc_CR_countClasses 55 = .ok (.iinc 3 1, 3) := by decide +kernel
theorem zd_CR_countClasses_58 : decode zc_CR_countClasses 58 = .ok (.goto (-52), 3) := by decide +kernel
theorem zd_CR_countClasses_61 : decode zc_CR_countClasses 61 = .ok (.iload_n 2, 1) := by decide +kernel
theorem zd_CR_countClasses_62 : decode zc_CR_countClasses 62 = .ok (.ifCond .eq 9, 3) := by decide +kernel
theorem zd_CR_countClasses_65 : decode zc_CR_countClasses 65 = .ok (.iload_n 1, 1) := by decide +kernel
theorem zd_CR_countClasses_66 : decode zc_CR_countClasses 66 = .ok (.iconst 2, 1) := by decide +kernel
theorem zd_CR_countClasses_67 : decode zc_CR_countClasses 67 = .ok (.iadd, 1) := by decide +kernel
theorem zd_CR_countClasses_68 : decode zc_CR_countClasses 68 = .ok (.goto 4, 3) := by decide +kernel
theorem zd_CR_countClasses_71 : decode zc_CR_countClasses 71 = .ok (.iload_n 1, 1) := by decide +kernel
theorem zd_CR_countClasses_72 : decode zc_CR_countClasses 72 = .ok (.ireturn, 1) := by decide +kernel
theorem zd_RE_leastOfKnot_0 : decode zc_RE_leastOfKnot 0 = .ok (.aload_n 0, 1) := by decide +kernel
theorem zd_RE_leastOfKnot_1 : decode zc_RE_leastOfKnot 1 = .ok (.getfield 14, 3) := by decide +kernel
theorem zd_RE_leastOfKnot_4 : decode zc_RE_leastOfKnot 4 = .ok (.iload_n 1, 1) := by decide +kernel
theorem zd_RE_leastOfKnot_5 : decode zc_RE_leastOfKnot 5 = .ok (.aload_n 0, 1) := by decide +kernel
theorem zd_RE_leastOfKnot_6 : decode zc_RE_leastOfKnot 6 = .ok (.getfield 20, 3) := by decide +kernel
theorem zd_RE_leastOfKnot_9 : decode zc_RE_leastOfKnot 9 = .ok (.iload_n 1, 1) := by decide +kernel
theorem zd_RE_leastOfKnot_10 : decode zc_RE_leastOfKnot 10 = .ok (.invokevirtual 54, 3) := by decide +kernel
theorem zd_RE_leastOfKnot_13 : decode zc_RE_leastOfKnot 13 = .ok (.ireturn, 1) := by decide +kernel
theorem zd_TA_leastShared_0 : decode zc_TA_leastShared 0 = .ok (.iconst 0, 1) := by decide +kernel
theorem zd_TA_leastShared_1 : decode zc_TA_leastShared 1 = .ok (.istore 4, 2) := by decide +kernel
theorem zd_TA_leastShared_3 : decode zc_TA_leastShared 3 = .ok (.iload 4, 2) := by decide +kernel
theorem zd_TA_leastShared_5 : decode zc_TA_leastShared 5 = .ok (.iconst 3, 1) := by decide +kernel
theorem zd_TA_leastShared_6 : decode zc_TA_leastShared 6 = .ok (.if_icmp .ge 53, 3) := by decide +kernel
theorem zd_TA_leastShared_9 : decode zc_TA_leastShared 9 = .ok (.aload_n 0, 1) := by decide +kernel
theorem zd_TA_leastShared_10 : decode zc_TA_leastShared 10 = .ok (.getfield 11, 3) := by decide +kernel
theorem zd_TA_leastShared_13 : decode zc_TA_leastShared 13 = .ok (.iload_n 1, 1) := by decide +kernel
theorem zd_TA_leastShared_14 : decode zc_TA_leastShared 14 = .ok (.iconst 3, 1) := by decide +kernel
theorem zd_TA_leastShared_15 : decode zc_TA_leastShared 15 = .ok (.imul, 1) := by decide +kernel
theorem zd_TA_leastShared_16 : decode zc_TA_leastShared 16 = .ok (.iload 4, 2) := by decide +kernel
theorem zd_TA_leastShared_18 : decode zc_TA_leastShared 18 = .ok (.iadd, 1) := by decide +kernel
theorem zd_TA_leastShared_19 : decode zc_TA_leastShared 19 = .ok (.laload, 1) := by decide +kernel
theorem zd_TA_leastShared_20 : decode zc_TA_leastShared 20 = .ok (.aload_n 2, 1) := by decide +kernel
theorem zd_TA_leastShared_21 : decode zc_TA_leastShared 21 = .ok (.getfield 11, 3) := by decide +kernel
theorem zd_TA_leastShared_24 : decode zc_TA_leastShared 24 = .ok (.iload_n 3, 1) := by decide +kernel
theorem zd_TA_leastShared_25 : decode zc_TA_leastShared 25 = .ok (.iconst 3, 1) := by decide +kernel
theorem zd_TA_leastShared_26 : decode zc_TA_leastShared 26 = .ok (.imul, 1) := by decide +kernel
theorem zd_TA_leastShared_27 : decode zc_TA_leastShared 27 = .ok (.iload 4, 2) := by decide +kernel
theorem zd_TA_leastShared_29 : decode zc_TA_leastShared 29 = .ok (.iadd, 1) := by decide +kernel
theorem zd_TA_leastShared_30 : decode zc_TA_leastShared 30 = .ok (.laload, 1) := by decide +kernel
theorem zd_TA_leastShared_31 : decode zc_TA_leastShared 31 = .ok (.land, 1) := by decide +kernel
theorem zd_TA_leastShared_32 : decode zc_TA_leastShared 32 = .ok (.lstore 5, 2) := by decide +kernel
theorem zd_TA_leastShared_34 : decode zc_TA_leastShared 34 = .ok (.lload 5, 2) := by decide +kernel
theorem zd_TA_leastShared_36 : decode zc_TA_leastShared 36 = .ok (.lconst 0, 1) := by decide +kernel
theorem zd_TA_leastShared_37 : decode zc_TA_leastShared 37 = .ok (.lcmp, 1) := by decide +kernel
theorem zd_TA_leastShared_38 : decode zc_TA_leastShared 38 = .ok (.ifCond .eq 15, 3) := by decide +kernel
theorem zd_TA_leastShared_41 : decode zc_TA_leastShared 41 = .ok (.iload 4, 2) := by decide +kernel
theorem zd_TA_leastShared_43 : decode zc_TA_leastShared 43 = .ok (.bipush 64, 2) := by decide +kernel
theorem zd_TA_leastShared_45 : decode zc_TA_leastShared 45 = .ok (.imul, 1) := by decide +kernel
theorem zd_TA_leastShared_46 : decode zc_TA_leastShared 46 = .ok (.lload 5, 2) := by decide +kernel
theorem zd_TA_leastShared_48 : decode zc_TA_leastShared 48 = .ok (.invokestatic 37, 3) := by decide +kernel
theorem zd_TA_leastShared_51 : decode zc_TA_leastShared 51 = .ok (.iadd, 1) := by decide +kernel
theorem zd_TA_leastShared_52 : decode zc_TA_leastShared 52 = .ok (.ireturn, 1) := by decide +kernel
theorem zd_TA_leastShared_53 : decode zc_TA_leastShared 53 = .ok (.iinc 4 1, 3) := by decide +kernel
theorem zd_TA_leastShared_56 : decode zc_TA_leastShared 56 = .ok (.goto (-53), 3) := by decide +kernel
theorem zd_TA_leastShared_59 : decode zc_TA_leastShared 59 = .ok (.iconst (-1), 1) := by decide +kernel
theorem zd_TA_leastShared_60 : decode zc_TA_leastShared 60 = .ok (.ireturn, 1) := by decide +kernel
theorem zd_MO_init_0 : decode zc_MO_init 0 = .ok (.aload_n 0, 1) := by decide +kernel
theorem zd_MO_init_1 : decode zc_MO_init 1 = .ok (.invokespecial 1, 3) := by decide +kernel
theorem zd_MO_init_4 : decode zc_MO_init 4 = .ok (.aload_n 0, 1) := by decide +kernel
theorem zd_MO_init_5 : decode zc_MO_init 5 = .ok (.iconst 1, 1) := by decide +kernel
theorem zd_MO_init_6 : decode zc_MO_init 6 = .ok (.putfield 7, 3) := by decide +kernel
theorem zd_MO_init_9 : decode zc_MO_init 9 = .ok (.aload_n 0, 1) := by decide +kernel
theorem zd_MO_init_10 : decode zc_MO_init 10 = .ok (.sipush 25600, 3) := by decide +kernel
theorem zd_MO_init_13 : decode zc_MO_init 13 = .ok (.newarray .boolean, 2) := by decide +kernel
theorem zd_MO_init_15 : decode zc_MO_init 15 = .ok (.putfield 13, 3) := by decide +kernel
theorem zd_MO_init_18 : decode zc_MO_init 18 = .ok (.aload_n 0, 1) := by decide +kernel
theorem zd_MO_init_19 : decode zc_MO_init 19 = .ok (.sipush 25600, 3) := by decide +kernel
theorem zd_MO_init_22 : decode zc_MO_init 22 = .ok (.newarray .boolean, 2) := by decide +kernel
theorem zd_MO_init_24 : decode zc_MO_init 24 = .ok (.putfield 17, 3) := by decide +kernel
theorem zd_MO_init_27 : decode zc_MO_init 27 = .ok (.aload_n 0, 1) := by decide +kernel
theorem zd_MO_init_28 : decode zc_MO_init 28 = .ok (.sipush 160, 3) := by decide +kernel
theorem zd_MO_init_31 : decode zc_MO_init 31 = .ok (.newarray .int, 2) := by decide +kernel
theorem zd_MO_init_33 : decode zc_MO_init 33 = .ok (.putfield 20, 3) := by decide +kernel
theorem zd_MO_init_36 : decode zc_MO_init 36 = .ok (.aload_n 0, 1) := by decide +kernel
theorem zd_MO_init_37 : decode zc_MO_init 37 = .ok (.sipush 160, 3) := by decide +kernel
theorem zd_MO_init_40 : decode zc_MO_init 40 = .ok (.newarray .int, 2) := by decide +kernel
theorem zd_MO_init_42 : decode zc_MO_init 42 = .ok (.putfield 24, 3) := by decide +kernel
theorem zd_MO_init_45 : decode zc_MO_init 45 = .ok (.aload_n 0, 1) := by decide +kernel
theorem zd_MO_init_46 : decode zc_MO_init 46 = .ok (.sipush 25600, 3) := by decide +kernel
theorem zd_MO_init_49 : decode zc_MO_init 49 = .ok (.newarray .boolean, 2) := by decide +kernel
theorem zd_MO_init_51 : decode zc_MO_init 51 = .ok (.putfield 27, 3) := by decide +kernel
theorem zd_MO_init_54 : decode zc_MO_init 54 = .ok (.aload_n 0, 1) := by decide +kernel
theorem zd_MO_init_55 : decode zc_MO_init 55 = .ok (.sipush 160, 3) := by decide +kernel
theorem zd_MO_init_58 : decode zc_MO_init 58 = .ok (.newarray .int, 2) := by decide +kernel
theorem zd_MO_init_60 : decode zc_MO_init 60 = .ok (.putfield 30, 3) := by decide +kernel
theorem zd_MO_init_63 : decode zc_MO_init 63 = .ok (.aload_n 0, 1) := by decide +kernel
theorem zd_MO_init_64 : decode zc_MO_init 64 = .ok (.iconst 1, 1) := by decide +kernel
theorem zd_MO_init_65 : decode zc_MO_init 65 = .ok (.putfield 33, 3) := by decide +kernel
theorem zd_MO_init_68 : decode zc_MO_init 68 = .ok (.aload_n 0, 1) := by decide +kernel
theorem zd_MO_init_69 : decode zc_MO_init 69 = .ok (.sipush 400, 3) := by decide +kernel
theorem zd_MO_init_72 : decode zc_MO_init 72 = .ok (.newarray .int, 2) := by decide +kernel
theorem zd_MO_init_74 : decode zc_MO_init 74 = .ok (.putfield 36, 3) := by decide +kernel
theorem zd_MO_init_77 : decode zc_MO_init 77 = .ok (.aload_n 0, 1) := by decide +kernel
theorem zd_MO_init_78 : decode zc_MO_init 78 = .ok (.sipush 400, 3) := by decide +kernel
theorem zd_MO_init_81 : decode zc_MO_init 81 = .ok (.newarray .int, 2) := by decide +kernel
theorem zd_MO_init_83 : decode zc_MO_init 83 = .ok (.putfield 39, 3) := by decide +kernel
theorem zd_MO_init_86 : decode zc_MO_init 86 = .ok (.aload_n 0, 1) := by decide +kernel
theorem zd_MO_init_87 : decode zc_MO_init 87 = .ok (.sipush 25600, 3) := by decide +kernel
theorem zd_MO_init_90 : decode zc_MO_init 90 = .ok (.newarray .boolean, 2) := by decide +kernel
theorem zd_MO_init_92 : decode zc_MO_init 92 = .ok (.putfield 42, 3) := by decide +kernel
theorem zd_MO_init_95 : decode zc_MO_init 95 = .ok (.aload_n 0, 1) := by decide +kernel
theorem zd_MO_init_96 : decode zc_MO_init 96 = .ok (.sipush 25600, 3) := by decide +kernel
theorem zd_MO_init_99 : decode zc_MO_init 99 = .ok (.newarray .boolean, 2) := by decide +kernel
theorem zd_MO_init_101 : decode zc_MO_init 101 = .ok (.putfield 45, 3) := by decide +kernel
theorem zd_MO_init_104 : decode zc_MO_init 104 = .ok (.aload_n 0, 1) := by decide +kernel
theorem zd_MO_init_105 : decode zc_MO_init 105 = .ok (.sipush 160, 3) := by decide +kernel
theorem zd_MO_init_108 : decode zc_MO_init 108 = .ok (.newarray .int, 2) := by decide +kernel
theorem zd_MO_init_110 : decode zc_MO_init 110 = .ok (.putfield 48, 3) := by decide +kernel
theorem zd_MO_init_113 : decode zc_MO_init 113 = .ok (.aload_n 0, 1) := by decide +kernel
theorem zd_MO_init_114 : decode zc_MO_init 114 = .ok (.sipush 160, 3) := by decide +kernel
theorem zd_MO_init_117 : decode zc_MO_init 117 = .ok (.newarray .int, 2) := by decide +kernel
theorem zd_MO_init_119 : decode zc_MO_init 119 = .ok (.putfield 51, 3) := by decide +kernel
theorem zd_MO_init_122 : decode zc_MO_init 122 = .ok (.aload_n 0, 1) := by decide +kernel
theorem zd_MO_init_123 : decode zc_MO_init 123 = .ok (.sipush 160, 3) := by decide +kernel
theorem zd_MO_init_126 : decode zc_MO_init 126 = .ok (.newarray .int, 2) := by decide +kernel
theorem zd_MO_init_128 : decode zc_MO_init 128 = .ok (.putfield 54, 3) := by decide +kernel
theorem zd_MO_init_131 : decode zc_MO_init 131 = .ok (.return_, 1) := by decide +kernel
theorem zd_MO_thrown_0 : decode zc_MO_thrown 0 = .ok (.aload_n 0, 1) := by decide +kernel
theorem zd_MO_thrown_1 : decode zc_MO_thrown 1 = .ok (.getfield 57, 3) := by decide +kernel
theorem zd_MO_thrown_4 : decode zc_MO_thrown 4 = .ok (.ireturn, 1) := by decide +kernel
theorem zd_MO_nodes_0 : decode zc_MO_nodes 0 = .ok (.aload_n 0, 1) := by decide +kernel
theorem zd_MO_nodes_1 : decode zc_MO_nodes 1 = .ok (.iload_n 1, 1) := by decide +kernel
theorem zd_MO_nodes_2 : decode zc_MO_nodes 2 = .ok (.iconst 1, 1) := by decide +kernel
theorem zd_MO_nodes_3 : decode zc_MO_nodes 3 = .ok (.if_icmp .lt 10, 3) := by decide +kernel
theorem zd_MO_nodes_6 : decode zc_MO_nodes 6 = .ok (.iload_n 1, 1) := by decide +kernel
theorem zd_MO_nodes_7 : decode zc_MO_nodes 7 = .ok (.sipush 160, 3) := by decide +kernel
theorem zd_MO_nodes_10 : decode zc_MO_nodes 10 = .ok (.if_icmp .le 7, 3) := by decide +kernel
theorem zd_MO_nodes_13 : decode zc_MO_nodes 13 = .ok (.iconst 1, 1) := by decide +kernel
theorem zd_MO_nodes_14 : decode zc_MO_nodes 14 = .ok (.goto 4, 3) := by decide +kernel
theorem zd_MO_nodes_17 : decode zc_MO_nodes 17 = .ok (.iconst 0, 1) := by decide +kernel
theorem zd_MO_nodes_18 : decode zc_MO_nodes 18 = .ok (.putfield 57, 3) := by decide +kernel
theorem zd_MO_nodes_21 : decode zc_MO_nodes 21 = .ok (.aload_n 0, 1) := by decide +kernel
theorem zd_MO_nodes_22 : decode zc_MO_nodes 22 = .ok (.getfield 57, 3) := by decide +kernel
theorem zd_MO_nodes_25 : decode zc_MO_nodes 25 = .ok (.ifCond .le 4, 3) := by decide +kernel
theorem zd_MO_nodes_28 : decode zc_MO_nodes 28 = .ok (.return_, 1) := by decide +kernel
theorem zd_MO_nodes_29 : decode zc_MO_nodes 29 = .ok (.aload_n 0, 1) := by decide +kernel
theorem zd_MO_nodes_30 : decode zc_MO_nodes 30 = .ok (.iload_n 1, 1) := by decide +kernel
theorem zd_MO_nodes_31 : decode zc_MO_nodes 31 = .ok (.putfield 7, 3) := by decide +kernel
theorem zd_MO_nodes_34 : decode zc_MO_nodes 34 = .ok (.aload_n 0, 1) := by decide +kernel
theorem zd_MO_nodes_35 : decode zc_MO_nodes 35 = .ok (.iconst 0, 1) := by decide +kernel
theorem zd_MO_nodes_36 : decode zc_MO_nodes 36 = .ok (.putfield 60, 3) := by decide +kernel
theorem zd_MO_nodes_39 : decode zc_MO_nodes 39 = .ok (.aload_n 0, 1) := by decide +kernel
theorem zd_MO_nodes_40 : decode zc_MO_nodes 40 = .ok (.iconst 0, 1) := by decide +kernel
theorem zd_MO_nodes_41 : decode zc_MO_nodes 41 = .ok (.putfield 63, 3) := by decide +kernel
theorem zd_MO_nodes_44 : decode zc_MO_nodes 44 = .ok (.iconst 0, 1) := by decide +kernel
theorem zd_MO_nodes_45 : decode zc_MO_nodes 45 = .ok (.istore_n 2, 1) := by decide +kernel
theorem zd_MO_nodes_46 : decode zc_MO_nodes 46 = .ok (.iload_n 2, 1) := by decide +kernel
theorem zd_MO_nodes_47 : decode zc_MO_nodes 47 = .ok (.sipush 25600, 3) := by decide +kernel
theorem zd_MO_nodes_50 : decode zc_MO_nodes 50 = .ok (.if_icmp .ge 16, 3) := by decide +kernel
theorem zd_MO_nodes_53 : decode zc_MO_nodes 53 = .ok (.aload_n 0, 1) := by decide +kernel
theorem zd_MO_nodes_54 : decode zc_MO_nodes 54 = .ok (.getfield 13, 3) := by decide +kernel
theorem zd_MO_nodes_57 : decode zc_MO_nodes 57 = .ok (.iload_n 2, 1) := by decide +kernel
theorem zd_MO_nodes_58 : decode zc_MO_nodes 58 = .ok (.iconst 0, 1) := by decide +kernel
theorem zd_MO_nodes_59 : decode zc_MO_nodes 59 = .ok (.bastore, 1) := by decide +kernel
theorem zd_MO_nodes_60 : decode zc_MO_nodes 60 = .ok (.iinc 2 1, 3) := by decide +kernel
theorem zd_MO_nodes_63 : decode zc_MO_nodes 63 = .ok (.goto (-17), 3) := by decide +kernel
theorem zd_MO_nodes_66 : decode zc_MO_nodes 66 = .ok (.return_, 1) := by decide +kernel
theorem zd_MO_arc_0 : decode zc_MO_arc 0 = .ok (.aload_n 0, 1) := by decide +kernel
theorem zd_MO_arc_1 : decode zc_MO_arc 1 = .ok (.aload_n 0, 1) := by decide +kernel
theorem zd_MO_arc_2 : decode zc_MO_arc 2 = .ok (.iload_n 1, 1) := by decide +kernel
theorem zd_MO_arc_3 : decode zc_MO_arc 3 = .ok (.invokevirtual 67, 3) := by decide +kernel
theorem zd_MO_arc_6 : decode zc_MO_arc 6 = .ok (.ifCond .ne 11, 3) := by decide +kernel
theorem zd_MO_arc_9 : decode zc_MO_arc 9 = .ok (.aload_n 0, 1) := by decide +kernel
theorem zd_MO_arc_10 : decode zc_MO_arc 10 = .ok (.iload_n 2, 1) := by decide +kernel
theorem zd_MO_arc_11 : decode zc_MO_arc 11 = .ok (.invokevirtual 67, 3) := by decide +kernel
theorem zd_MO_arc_14 : decode zc_MO_arc 14 = .ok (.ifCond .eq 7, 3) := by decide +kernel
theorem zd_MO_arc_17 : decode zc_MO_arc 17 = .ok (.iconst 1, 1) := by decide +kernel
theorem zd_MO_arc_18 : decode zc_MO_arc 18 = .ok (.goto 4, 3) := by decide +kernel
theorem zd_MO_arc_21 : decode zc_MO_arc 21 = .ok (.iconst 0, 1) := by decide +kernel
theorem zd_MO_arc_22 : decode zc_MO_arc 22 = .ok (.putfield 57, 3) := by decide +kernel
theorem zd_MO_arc_25 : decode zc_MO_arc 25 = .ok (.aload_n 0, 1) := by decide +kernel
theorem zd_MO_arc_26 : decode zc_MO_arc 26 = .ok (.getfield 57, 3) := by decide +kernel
theorem zd_MO_arc_29 : decode zc_MO_arc 29 = .ok (.ifCond .le 5, 3) := by decide +kernel
theorem zd_MO_arc_32 : decode zc_MO_arc 32 = .ok (.iconst 0, 1) := by decide +kernel
theorem zd_MO_arc_33 : decode zc_MO_arc 33 = .ok (.ireturn, 1) := by decide +kernel
theorem zd_MO_arc_34 : decode zc_MO_arc 34 = .ok (.aload_n 0, 1) := by decide +kernel
theorem zd_MO_arc_35 : decode zc_MO_arc 35 = .ok (.getfield 13, 3) := by decide +kernel
theorem zd_MO_arc_38 : decode zc_MO_arc 38 = .ok (.iload_n 1, 1) := by decide +kernel
theorem zd_MO_arc_39 : decode zc_MO_arc 39 = .ok (.iload_n 2, 1) := by decide +kernel
theorem zd_MO_arc_40 : decode zc_MO_arc 40 = .ok (.invokestatic 71, 3) := by decide +kernel
theorem zd_MO_arc_43 : decode zc_MO_arc 43 = .ok (.baload, 1) := by decide +kernel
theorem zd_MO_arc_44 : decode zc_MO_arc 44 = .ok (.ifCond .ne 13, 3) := by decide +kernel
theorem zd_MO_arc_47 : decode zc_MO_arc 47 = .ok (.aload_n 0, 1) := by decide +kernel
theorem zd_MO_arc_48 : decode zc_MO_arc 48 = .ok (.getfield 60, 3) := by decide +kernel
theorem zd_MO_arc_51 : decode zc_MO_arc 51 = .ok (.sipush 1000, 3) := by decide +kernel
theorem zd_MO_arc_54 : decode zc_MO_arc 54 = .ok (.if_icmp .ne 5, 3) := by decide +kernel
theorem zd_MO_arc_57 : decode zc_MO_arc 57 = .ok (.iconst (-1), 1) := by decide +kernel
theorem zd_MO_arc_58 : decode zc_MO_arc 58 = .ok (.ireturn, 1) := by decide +kernel
theorem zd_MO_arc_59 : decode zc_MO_arc 59 = .ok (.aload_n 0, 1) := by decide +kernel
theorem zd_MO_arc_60 : decode zc_MO_arc 60 = .ok (.getfield 13, 3) := by decide +kernel
theorem zd_MO_arc_63 : decode zc_MO_arc 63 = .ok (.iload_n 1, 1) := by decide +kernel
theorem zd_MO_arc_64 : decode zc_MO_arc 64 = .ok (.iload_n 2, 1) := by decide +kernel
theorem zd_MO_arc_65 : decode zc_MO_arc 65 = .ok (.invokestatic 71, 3) := by decide +kernel
theorem zd_MO_arc_68 : decode zc_MO_arc 68 = .ok (.iconst 1, 1) := by decide +kernel
theorem zd_MO_arc_69 : decode zc_MO_arc 69 = .ok (.bastore, 1) := by decide +kernel
theorem zd_MO_arc_70 : decode zc_MO_arc 70 = .ok (.aload_n 0, 1) := by decide +kernel
theorem zd_MO_arc_71 : decode zc_MO_arc 71 = .ok (.dup, 1) := by decide +kernel
theorem zd_MO_arc_72 : decode zc_MO_arc 72 = .ok (.getfield 60, 3) := by decide +kernel
theorem zd_MO_arc_75 : decode zc_MO_arc 75 = .ok (.iconst 1, 1) := by decide +kernel
theorem zd_MO_arc_76 : decode zc_MO_arc 76 = .ok (.iadd, 1) := by decide +kernel
theorem zd_MO_arc_77 : decode zc_MO_arc 77 = .ok (.putfield 60, 3) := by decide +kernel
theorem zd_MO_arc_80 : decode zc_MO_arc 80 = .ok (.aload_n 0, 1) := by decide +kernel
theorem zd_MO_arc_81 : decode zc_MO_arc 81 = .ok (.iconst 0, 1) := by decide +kernel
theorem zd_MO_arc_82 : decode zc_MO_arc 82 = .ok (.putfield 63, 3) := by decide +kernel
theorem zd_MO_arc_85 : decode zc_MO_arc 85 = .ok (.aload_n 0, 1) := by decide +kernel
theorem zd_MO_arc_86 : decode zc_MO_arc 86 = .ok (.getfield 60, 3) := by decide +kernel
theorem zd_MO_arc_89 : decode zc_MO_arc 89 = .ok (.ireturn, 1) := by decide +kernel
theorem zd_MO_noNode_0 : decode zc_MO_noNode 0 = .ok (.iload_n 1, 1) := by decide +kernel
theorem zd_MO_noNode_1 : decode zc_MO_noNode 1 = .ok (.ifCond .lt 11, 3) := by decide +kernel
theorem zd_MO_noNode_4 : decode zc_MO_noNode 4 = .ok (.iload_n 1, 1) := by decide +kernel
theorem zd_MO_noNode_5 : decode zc_MO_noNode 5 = .ok (.aload_n 0, 1) := by decide +kernel
theorem zd_MO_noNode_6 : decode zc_MO_noNode 6 = .ok (.getfield 7, 3) := by decide +kernel
theorem zd_MO_noNode_9 : decode zc_MO_noNode 9 = .ok (.if_icmp .lt 7, 3) := by decide +kernel
theorem zd_MO_noNode_12 : decode zc_MO_noNode 12 = .ok (.iconst 1, 1) := by decide +kernel
theorem zd_MO_noNode_13 : decode zc_MO_noNode 13 = .ok (.goto 4, 3) := by decide +kernel
theorem zd_MO_noNode_16 : decode zc_MO_noNode 16 = .ok (.iconst 0, 1) := by decide +kernel
theorem zd_MO_noNode_17 : decode zc_MO_noNode 17 = .ok (.ireturn, 1) := by decide +kernel
theorem zd_MO_cell_0 : decode zc_MO_cell 0 = .ok (.sipush 160, 3) := by decide +kernel
theorem zd_MO_cell_3 : decode zc_MO_cell 3 = .ok (.iload_n 0, 1) := by decide +kernel
theorem zd_MO_cell_4 : decode zc_MO_cell 4 = .ok (.imul, 1) := by decide +kernel
theorem zd_MO_cell_5 : decode zc_MO_cell 5 = .ok (.iload_n 1, 1) := by decide +kernel
theorem zd_MO_cell_6 : decode zc_MO_cell 6 = .ok (.iadd, 1) := by decide +kernel
theorem zd_MO_cell_7 : decode zc_MO_cell 7 = .ok (.ireturn, 1) := by decide +kernel
theorem zd_MO_cut_0 : decode zc_MO_cut 0 = .ok (.aload_n 0, 1) := by decide +kernel
theorem zd_MO_cut_1 : decode zc_MO_cut 1 = .ok (.aload_n 0, 1) := by decide +kernel
theorem zd_MO_cut_2 : decode zc_MO_cut 2 = .ok (.iload_n 1, 1) := by decide +kernel
theorem zd_MO_cut_3 : decode zc_MO_cut 3 = .ok (.invokevirtual 67, 3) := by decide +kernel
theorem zd_MO_cut_6 : decode zc_MO_cut 6 = .ok (.ifCond .ne 11, 3) := by decide +kernel
theorem zd_MO_cut_9 : decode zc_MO_cut 9 = .ok (.aload_n 0, 1) := by decide +kernel
theorem zd_MO_cut_10 : decode zc_MO_cut 10 = .ok (.iload_n 2, 1) := by decide +kernel
theorem zd_MO_cut_11 : decode zc_MO_cut 11 = .ok (.invokevirtual 67, 3) := by decide +kernel
theorem zd_MO_cut_14 : decode zc_MO_cut 14 = .ok (.ifCond .eq 7, 3) := by decide +kernel
theorem zd_MO_cut_17 : decode zc_MO_cut 17 = .ok (.iconst 1, 1) := by decide +kernel
theorem zd_MO_cut_18 : decode zc_MO_cut 18 = .ok (.goto 4, 3) := by decide +kernel
theorem zd_MO_cut_21 : decode zc_MO_cut 21 = .ok (.iconst 0, 1) := by decide +kernel
theorem zd_MO_cut_22 : decode zc_MO_cut 22 = .ok (.putfield 57, 3) := by decide +kernel
theorem zd_MO_cut_25 : decode zc_MO_cut 25 = .ok (.aload_n 0, 1) := by decide +kernel
theorem zd_MO_cut_26 : decode zc_MO_cut 26 = .ok (.getfield 57, 3) := by decide +kernel
theorem zd_MO_cut_29 : decode zc_MO_cut 29 = .ok (.ifCond .gt 16, 3) := by decide +kernel
theorem zd_MO_cut_32 : decode zc_MO_cut 32 = .ok (.aload_n 0, 1) := by decide +kernel
theorem zd_MO_cut_33 : decode zc_MO_cut 33 = .ok (.getfield 13, 3) := by decide +kernel
theorem zd_MO_cut_36 : decode zc_MO_cut 36 = .ok (.iload_n 1, 1) := by decide +kernel
theorem zd_MO_cut_37 : decode zc_MO_cut 37 = .ok (.iload_n 2, 1) := by decide +kernel
theorem zd_MO_cut_38 : decode zc_MO_cut 38 = .ok (.invokestatic 71, 3) := by decide +kernel
theorem zd_MO_cut_41 : decode zc_MO_cut 41 = .ok (.baload, 1) := by decide +kernel
theorem zd_MO_cut_42 : decode zc_MO_cut 42 = .ok (.ifCond .ne 5, 3) := by decide +kernel
theorem zd_MO_cut_45 : decode zc_MO_cut 45 = .ok (.iconst 0, 1) := by decide +kernel
theorem zd_MO_cut_46 : decode zc_MO_cut 46 = .ok (.ireturn, 1) := by decide +kernel
theorem zd_MO_cut_47 : decode zc_MO_cut 47 = .ok (.aload_n 0, 1) := by decide +kernel
theorem zd_MO_cut_48 : decode zc_MO_cut 48 = .ok (.getfield 13, 3) := by decide +kernel
theorem zd_MO_cut_51 : decode zc_MO_cut 51 = .ok (.iload_n 1, 1) := by decide +kernel
theorem zd_MO_cut_52 : decode zc_MO_cut 52 = .ok (.iload_n 2, 1) := by decide +kernel
theorem zd_MO_cut_53 : decode zc_MO_cut 53 = .ok (.invokestatic 71, 3) := by decide +kernel
theorem zd_MO_cut_56 : decode zc_MO_cut 56 = .ok (.iconst 0, 1) := by decide +kernel
theorem zd_MO_cut_57 : decode zc_MO_cut 57 = .ok (.bastore, 1) := by decide +kernel
theorem zd_MO_cut_58 : decode zc_MO_cut 58 = .ok (.aload_n 0, 1) := by decide +kernel
theorem zd_MO_cut_59 : decode zc_MO_cut 59 = .ok (.dup, 1) := by decide +kernel
theorem zd_MO_cut_60 : decode zc_MO_cut 60 = .ok (.getfield 60, 3) := by decide +kernel
theorem zd_MO_cut_63 : decode zc_MO_cut 63 = .ok (.iconst 1, 1) := by decide +kernel
theorem zd_MO_cut_64 : decode zc_MO_cut 64 = .ok (.isub, 1) := by decide +kernel
theorem zd_MO_cut_65 : decode zc_MO_cut 65 = .ok (.putfield 60, 3) := by decide +kernel
theorem zd_MO_cut_68 : decode zc_MO_cut 68 = .ok (.aload_n 0, 1) := by decide +kernel
theorem zd_MO_cut_69 : decode zc_MO_cut 69 = .ok (.iconst 0, 1) := by decide +kernel
theorem zd_MO_cut_70 : decode zc_MO_cut 70 = .ok (.putfield 63, 3) := by decide +kernel
theorem zd_MO_cut_73 : decode zc_MO_cut 73 = .ok (.iconst 1, 1) := by decide +kernel
theorem zd_MO_cut_74 : decode zc_MO_cut 74 = .ok (.ireturn, 1) := by decide +kernel
theorem zd_MO_parts_0 : decode zc_MO_parts 0 = .ok (.aload_n 0, 1) := by decide +kernel
theorem zd_MO_parts_1 : decode zc_MO_parts 1 = .ok (.iconst 0, 1) := by decide +kernel
theorem zd_MO_parts_2 : decode zc_MO_parts 2 = .ok (.putfield 57, 3) := by decide +kernel
theorem zd_MO_parts_5 : decode zc_MO_parts 5 = .ok (.aload_n 0, 1) := by decide +kernel
theorem zd_MO_parts_6 : decode zc_MO_parts 6 = .ok (.invokevirtual 98, 3) := by decide +kernel
theorem zd_MO_parts_9 : decode zc_MO_parts 9 = .ok (.aload_n 0, 1) := by decide +kernel
theorem zd_MO_parts_10 : decode zc_MO_parts 10 = .ok (.getfield 79, 3) := by decide +kernel
theorem zd_MO_parts_13 : decode zc_MO_parts 13 = .ok (.ireturn, 1) := by decide +kernel
theorem zd_MO_know_0 : decode zc_MO_know 0 = .ok (.aload_n 0, 1) := by decide +kernel
theorem zd_MO_know_1 : decode zc_MO_know 1 = .ok (.getfield 63, 3) := by decide +kernel
theorem zd_MO_know_4 : decode zc_MO_know 4 = .ok (.ifCond .eq 4, 3) := by decide +kernel
theorem zd_MO_know_7 : decode zc_MO_know 7 = .ok (.return_, 1) := by decide +kernel
theorem zd_MO_know_8 : decode zc_MO_know 8 = .ok (.aload_n 0, 1) := by decide +kernel
theorem zd_MO_know_9 : decode zc_MO_know 9 = .ok (.iconst 1, 1) := by decide +kernel
theorem zd_MO_know_10 : decode zc_MO_know 10 = .ok (.putfield 63, 3) := by decide +kernel
theorem zd_MO_know_13 : decode zc_MO_know 13 = .ok (.iconst 0, 1) := by decide +kernel
theorem zd_MO_know_14 : decode zc_MO_know 14 = .ok (.istore_n 1, 1) := by decide +kernel
theorem zd_MO_know_15 : decode zc_MO_know 15 = .ok (.iload_n 1, 1) := by decide +kernel
theorem zd_MO_know_16 : decode zc_MO_know 16 = .ok (.aload_n 0, 1) := by decide +kernel
theorem zd_MO_know_17 : decode zc_MO_know 17 = .ok (.getfield 7, 3) := by decide +kernel
theorem zd_MO_know_20 : decode zc_MO_know 20 = .ok (.if_icmp .ge 58, 3) := by decide +kernel
theorem zd_MO_know_23 : decode zc_MO_know 23 = .ok (.iconst 0, 1) := by decide +kernel
theorem zd_MO_know_24 : decode zc_MO_know 24 = .ok (.istore_n 2, 1) := by decide +kernel
theorem zd_MO_know_25 : decode zc_MO_know 25 = .ok (.iload_n 2, 1) := by decide +kernel
theorem zd_MO_know_26 : decode zc_MO_know 26 = .ok (.aload_n 0, 1) := by decide +kernel
theorem zd_MO_know_27 : decode zc_MO_know 27 = .ok (.getfield 7, 3) := by decide +kernel
theorem zd_MO_know_30 : decode zc_MO_know 30 = .ok (.if_icmp .ge 42, 3) := by decide +kernel
theorem zd_MO_know_33 : decode zc_MO_know 33 = .ok (.aload_n 0, 1) := by decide +kernel
theorem zd_MO_know_34 : decode zc_MO_know 34 = .ok (.getfield 17, 3) := by decide +kernel
theorem zd_MO_know_37 : decode zc_MO_know 37 = .ok (.iload_n 1, 1) := by decide +kernel
theorem zd_MO_know_38 : decode zc_MO_know 38 = .ok (.iload_n 2, 1) := by decide +kernel
theorem zd_MO_know_39 : decode zc_MO_know 39 = .ok (.invokestatic 71, 3) := by decide +kernel
theorem zd_MO_know_42 : decode zc_MO_know 42 = .ok (.iload_n 1, 1) := by decide +kernel
theorem zd_MO_know_43 : decode zc_MO_know 43 = .ok (.iload_n 2, 1) := by decide +kernel
theorem zd_MO_know_44 : decode zc_MO_know 44 = .ok (.if_icmp .eq 16, 3) := by decide +kernel
theorem zd_MO_know_47 : decode zc_MO_know 47 = .ok (.aload_n 0, 1) := by decide +kernel
theorem zd_MO_know_48 : decode zc_MO_know 48 = .ok (.getfield 13, 3) := by decide +kernel
theorem zd_MO_know_51 : decode zc_MO_know 51 = .ok (.iload_n 1, 1) := by decide +kernel
theorem zd_MO_know_52 : decode zc_MO_know 52 = .ok (.iload_n 2, 1) := by decide +kernel
theorem zd_MO_know_53 : decode zc_MO_know 53 = .ok (.invokestatic 71, 3) := by decide +kernel
theorem zd_MO_know_56 : decode zc_MO_know 56 = .ok (.baload, 1) := by decide +kernel
theorem zd_MO_know_57 : decode zc_MO_know 57 = .ok (.ifCond .eq 7, 3) := by decide +kernel
theorem zd_MO_know_60 : decode zc_MO_know 60 = .ok (.iconst 1, 1) := by decide +kernel
theorem zd_MO_know_61 : decode zc_MO_know 61 = .ok (.goto 4, 3) := by decide +kernel
theorem zd_MO_know_64 : decode zc_MO_know 64 = .ok (.iconst 0, 1) := by decide +kernel
theorem zd_MO_know_65 : decode zc_MO_know 65 = .ok (.bastore, 1) := by decide +kernel
theorem zd_MO_know_66 : decode zc_MO_know 66 = .ok (.iinc 2 1, 3) := by decide +kernel
theorem zd_MO_know_69 : decode zc_MO_know 69 = .ok (.goto (-44), 3) := by decide +kernel
theorem zd_MO_know_72 : decode zc_MO_know 72 = .ok (.iinc 1 1, 3) := by decide +kernel
theorem zd_MO_know_75 : decode zc_MO_know 75 = .ok (.goto (-60), 3) := by decide +kernel
theorem zd_MO_know_78 : decode zc_MO_know 78 = .ok (.aload_n 0, 1) := by decide +kernel
theorem zd_MO_know_79 : decode zc_MO_know 79 = .ok (.aload_n 0, 1) := by decide +kernel
theorem zd_MO_know_80 : decode zc_MO_know 80 = .ok (.getfield 17, 3) := by decide +kernel
theorem zd_MO_know_83 : decode zc_MO_know 83 = .ok (.aload_n 0, 1) := by decide +kernel
theorem zd_MO_know_84 : decode zc_MO_know 84 = .ok (.getfield 7, 3) := by decide +kernel
theorem zd_MO_know_87 : decode zc_MO_know 87 = .ok (.invokevirtual 85, 3) := by decide +kernel
theorem zd_MO_know_90 : decode zc_MO_know 90 = .ok (.aload_n 0, 1) := by decide +kernel
theorem zd_MO_know_91 : decode zc_MO_know 91 = .ok (.invokevirtual 89, 3) := by decide +kernel
theorem zd_MO_know_94 : decode zc_MO_know 94 = .ok (.aload_n 0, 1) := by decide +kernel
theorem zd_MO_know_95 : decode zc_MO_know 95 = .ok (.invokevirtual 92, 3) := by decide +kernel
theorem zd_MO_know_98 : decode zc_MO_know 98 = .ok (.aload_n 0, 1) := by decide +kernel
theorem zd_MO_know_99 : decode zc_MO_know 99 = .ok (.getfield 79, 3) := by decide +kernel
theorem zd_MO_know_102 : decode zc_MO_know 102 = .ok (.iconst 1, 1) := by decide +kernel
theorem zd_MO_know_103 : decode zc_MO_know 103 = .ok (.isub, 1) := by decide +kernel
theorem zd_MO_know_104 : decode zc_MO_know 104 = .ok (.istore_n 1, 1) := by decide +kernel
theorem zd_MO_know_105 : decode zc_MO_know 105 = .ok (.iload_n 1, 1) := by decide +kernel
theorem zd_MO_know_106 : decode zc_MO_know 106 = .ok (.ifCond .lt 81, 3) := by decide +kernel
theorem zd_MO_know_109 : decode zc_MO_know 109 = .ok (.aload_n 0, 1) := by decide +kernel
theorem zd_MO_know_110 : decode zc_MO_know 110 = .ok (.getfield 24, 3) := by decide +kernel
theorem zd_MO_know_113 : decode zc_MO_know 113 = .ok (.iload_n 1, 1) := by decide +kernel
theorem zd_MO_know_114 : decode zc_MO_know 114 = .ok (.iconst 1, 1) := by decide +kernel
theorem zd_MO_know_115 : decode zc_MO_know 115 = .ok (.iastore, 1) := by decide +kernel
theorem zd_MO_know_116 : decode zc_MO_know 116 = .ok (.iload_n 1, 1) := by decide +kernel
theorem zd_MO_know_117 : decode zc_MO_know 117 = .ok (.iconst 1, 1) := by decide +kernel
theorem zd_MO_know_118 : decode zc_MO_know 118 = .ok (.iadd, 1) := by decide +kernel
theorem zd_MO_know_119 : decode zc_MO_know 119 = .ok (.istore_n 2, 1) := by decide +kernel
theorem zd_MO_know_120 : decode zc_MO_know 120 = .ok (.iload_n 2, 1) := by decide +kernel
theorem zd_MO_know_121 : decode zc_MO_know 121 = .ok (.aload_n 0, 1) := by decide +kernel
theorem zd_MO_know_122 : decode zc_MO_know 122 = .ok (.getfield 79, 3) := by decide +kernel
theorem zd_MO_know_125 : decode zc_MO_know 125 = .ok (.if_icmp .ge 56, 3) := by decide +kernel
theorem zd_MO_know_128 : decode zc_MO_know 128 = .ok (.aload_n 0, 1) := by decide +kernel
theorem zd_MO_know_129 : decode zc_MO_know 129 = .ok (.getfield 24, 3) := by decide +kernel
theorem zd_MO_know_132 : decode zc_MO_know 132 = .ok (.iload_n 1, 1) := by decide +kernel
theorem zd_MO_know_133 : decode zc_MO_know 133 = .ok (.aload_n 0, 1) := by decide +kernel
theorem zd_MO_know_134 : decode zc_MO_know 134 = .ok (.getfield 24, 3) := by decide +kernel
theorem zd_MO_know_137 : decode zc_MO_know 137 = .ok (.iload_n 2, 1) := by decide +kernel
theorem zd_MO_know_138 : decode zc_MO_know 138 = .ok (.iaload, 1) := by decide +kernel
theorem zd_MO_know_139 : decode zc_MO_know 139 = .ok (.aload_n 0, 1) := by decide +kernel
theorem zd_MO_know_140 : decode zc_MO_know 140 = .ok (.getfield 24, 3) := by decide +kernel
theorem zd_MO_know_143 : decode zc_MO_know 143 = .ok (.iload_n 1, 1) := by decide +kernel
theorem zd_MO_know_144 : decode zc_MO_know 144 = .ok (.iaload, 1) := by decide +kernel
theorem zd_MO_know_145 : decode zc_MO_know 145 = .ok (.if_icmp .lt 23, 3) := by decide +kernel
theorem zd_MO_know_148 : decode zc_MO_know 148 = .ok (.aload_n 0, 1) := by decide +kernel
theorem zd_MO_know_149 : decode zc_MO_know 149 = .ok (.iload_n 1, 1) := by decide +kernel
theorem zd_MO_know_150 : decode zc_MO_know 150 = .ok (.iload_n 2, 1) := by decide +kernel
theorem zd_MO_know_151 : decode zc_MO_know 151 = .ok (.invokevirtual 95, 3) := by decide +kernel
theorem zd_MO_know_154 : decode zc_MO_know 154 = .ok (.ifCond .eq 14, 3) := by decide +kernel
theorem zd_MO_know_157 : decode zc_MO_know 157 = .ok (.aload_n 0, 1) := by decide +kernel
theorem zd_MO_know_158 : decode zc_MO_know 158 = .ok (.getfield 24, 3) := by decide +kernel
theorem zd_MO_know_161 : decode zc_MO_know 161 = .ok (.iload_n 2, 1) := by decide +kernel
theorem zd_MO_know_162 : decode zc_MO_know 162 = .ok (.iaload, 1) := by decide +kernel
theorem zd_MO_know_163 : decode zc_MO_know 163 = .ok (.iconst 1, 1) := by decide +kernel
theorem zd_MO_know_164 : decode zc_MO_know 164 = .ok (.iadd, 1) := by decide +kernel
theorem zd_MO_know_165 : decode zc_MO_know 165 = .ok (.goto 9, 3) := by decide +kernel
theorem zd_MO_know_168 : decode zc_MO_know 168 = .ok (.aload_n 0, 1) := by decide +kernel
theorem zd_MO_know_169 : decode zc_MO_know 169 = .ok (.getfield 24, 3) := by decide +kernel
theorem zd_MO_know_172 : decode zc_MO_know 172 = .ok (.iload_n 1, 1) := by decide +kernel
theorem zd_MO_know_173 : decode zc_MO_know 173 = .ok (.iaload, 1) := by decide +kernel
theorem zd_MO_know_174 : decode zc_MO_know 174 = .ok (.iastore, 1) := by decide +kernel
theorem zd_MO_know_175 : decode zc_MO_know 175 = .ok (.iinc 2 1, 3) := by decide +kernel
theorem zd_MO_know_178 : decode zc_MO_know 178 = .ok (.goto (-58), 3) := by decide +kernel
theorem zd_MO_know_181 : decode zc_MO_know 181 = .ok (.iinc 1 (-1), 3) := by decide +kernel
theorem zd_MO_know_184 : decode zc_MO_know 184 = .ok (.goto (-79), 3) := by decide +kernel
theorem zd_MO_know_187 : decode zc_MO_know 187 = .ok (.return_, 1) := by decide +kernel
theorem zd_MO_closeAll_0 : decode zc_MO_closeAll 0 = .ok (.iconst 0, 1) := by decide +kernel
theorem zd_MO_closeAll_1 : decode zc_MO_closeAll 1 = .ok (.istore_n 3, 1) := by decide +kernel
theorem zd_MO_closeAll_2 : decode zc_MO_closeAll 2 = .ok (.iload_n 3, 1) := by decide +kernel
theorem zd_MO_closeAll_3 : decode zc_MO_closeAll 3 = .ok (.iload_n 2, 1) := by decide +kernel
theorem zd_MO_closeAll_4 : decode zc_MO_closeAll 4 = .ok (.if_icmp .ge 87, 3) := by decide +kernel
theorem zd_MO_closeAll_7 : decode zc_MO_closeAll 7 = .ok (.iconst 0, 1) := by decide +kernel
theorem zd_MO_closeAll_8 : decode zc_MO_closeAll 8 = .ok (.istore 4, 2) := by decide +kernel
theorem zd_MO_closeAll_10 : decode zc_MO_closeAll 10 = .ok (.iload 4, 2) := by decide +kernel
theorem zd_MO_closeAll_12 : decode zc_MO_closeAll 12 = .ok (.iload_n 2, 1) := by decide +kernel
theorem zd_MO_closeAll_13 : decode zc_MO_closeAll 13 = .ok (.if_icmp .ge 72, 3) := by decide +kernel
theorem zd_MO_closeAll_16 : decode zc_MO_closeAll 16 = .ok (.aload_n 1, 1) := by decide +kernel
theorem zd_MO_closeAll_17 : decode zc_MO_closeAll 17 = .ok (.iload 4, 2) := by decide +kernel
theorem zd_MO_closeAll_19 : decode zc_MO_closeAll 19 = .ok (.iload_n 3, 1) := by decide +kernel
theorem zd_MO_closeAll_20 : decode zc_MO_closeAll 20 = .ok (.invokestatic 71, 3) := by decide +kernel
theorem zd_MO_closeAll_23 : decode zc_MO_closeAll 23 = .ok (.baload, 1) := by decide +kernel
theorem zd_MO_closeAll_24 : decode zc_MO_closeAll 24 = .ok (.ifCond .eq 55, 3) := by decide +kernel
theorem zd_MO_closeAll_27 : decode zc_MO_closeAll 27 = .ok (.iconst 0, 1) := by decide +kernel
theorem zd_MO_closeAll_28 : decode zc_MO_closeAll 28 = .ok (.istore 5, 2) := by decide +kernel
theorem zd_MO_closeAll_30 : decode zc_MO_closeAll 30 = .ok (.iload 5, 2) := by decide +kernel
theorem zd_MO_closeAll_32 : decode zc_MO_closeAll 32 = .ok (.iload_n 2, 1) := by decide +kernel
theorem zd_MO_closeAll_33 : decode zc_MO_closeAll 33 = .ok (.if_icmp .ge 46, 3) := by decide +kernel
theorem zd_MO_closeAll_36 : decode zc_MO_closeAll 36 = .ok (.aload_n 1, 1) := by decide +kernel
theorem zd_MO_closeAll_37 : decode zc_MO_closeAll 37 = .ok (.iload 4, 2) := by decide +kernel
theorem zd_MO_closeAll_39 : decode zc_MO_closeAll 39 = .ok (.iload 5, 2) := by decide +kernel
theorem zd_MO_closeAll_41 : decode zc_MO_closeAll 41 = .ok (.invokestatic 71, 3) := by decide +kernel
theorem zd_MO_closeAll_44 : decode zc_MO_closeAll 44 = .ok (.aload_n 1, 1) := by decide +kernel
theorem zd_MO_closeAll_45 : decode zc_MO_closeAll 45 = .ok (.iload 4, 2) := by decide +kernel
theorem zd_MO_closeAll_47 : decode zc_MO_closeAll 47 = .ok (.iload 5, 2) := by decide +kernel
theorem zd_MO_closeAll_49 : decode zc_MO_closeAll 49 = .ok (.invokestatic 71, 3) := by decide +kernel
theorem zd_MO_closeAll_52 : decode zc_MO_closeAll 52 = .ok (.baload, 1) := by decide +kernel
theorem zd_MO_closeAll_53 : decode zc_MO_closeAll 53 = .ok (.ifCond .ne 14, 3) := by decide +kernel
theorem zd_MO_closeAll_56 : decode zc_MO_closeAll 56 = .ok (.aload_n 1, 1) := by decide +kernel
theorem zd_MO_closeAll_57 : decode zc_MO_closeAll 57 = .ok (.iload_n 3, 1) := by decide +kernel
theorem zd_MO_closeAll_58 : decode zc_MO_closeAll 58 = .ok (.iload 5, 2) := by decide +kernel
theorem zd_MO_closeAll_60 : decode zc_MO_closeAll 60 = .ok (.invokestatic 71, 3) := by decide +kernel
theorem zd_MO_closeAll_63 : decode zc_MO_closeAll 63 = .ok (.baload, 1) := by decide +kernel
theorem zd_MO_closeAll_64 : decode zc_MO_closeAll 64 = .ok (.ifCond .eq 7, 3) := by decide +kernel
theorem zd_MO_closeAll_67 : decode zc_MO_closeAll 67 = .ok (.iconst 1, 1) := by decide +kernel
theorem zd_MO_closeAll_68 : decode zc_MO_closeAll 68 = .ok (.goto 4, 3) := by decide +kernel
theorem zd_MO_closeAll_71 : decode zc_MO_closeAll 71 = .ok (.iconst 0, 1) := by decide +kernel
theorem zd_MO_closeAll_72 : decode zc_MO_closeAll 72 = .ok (.bastore, 1) := by decide +kernel
theorem zd_MO_closeAll_73 : decode zc_MO_closeAll 73 = .ok (.iinc 5 1, 3) := by decide +kernel
theorem zd_MO_closeAll_76 : decode zc_MO_closeAll 76 = .ok (.goto (-46), 3) := by decide +kernel
theorem zd_MO_closeAll_79 : decode zc_MO_closeAll 79 = .ok (.iinc 4 1, 3) := by decide +kernel
theorem zd_MO_closeAll_82 : decode zc_MO_closeAll 82 = .ok (.goto (-72), 3) := by decide +kernel
theorem zd_MO_closeAll_85 : decode zc_MO_closeAll 85 = .ok (.iinc 3 1, 3) := by decide +kernel
theorem zd_MO_closeAll_88 : decode zc_MO_closeAll 88 = .ok (.goto (-86), 3) := by decide +kernel
theorem zd_MO_closeAll_91 : decode zc_MO_closeAll 91 = .ok (.return_, 1) := by decide +kernel
theorem zd_MO_numberParts_0 : decode zc_MO_numberParts 0 = .ok (.aload_n 0, 1) := by decide +kernel
theorem zd_MO_numberParts_1 : decode zc_MO_numberParts 1 = .ok (.iconst 0, 1) := by decide +kernel
theorem zd_MO_numberParts_2 : decode zc_MO_numberParts 2 = .ok (.putfield 79, 3) := by decide +kernel
theorem zd_MO_numberParts_5 : decode zc_MO_numberParts 5 = .ok (.iconst 0, 1) := by decide +kernel
theorem zd_MO_numberParts_6 : decode zc_MO_numberParts 6 = .ok (.istore_n 1, 1) := by decide +kernel
theorem zd_MO_numberParts_7 : decode zc_MO_numberParts 7 = .ok (.iload_n 1, 1) := by decide +kernel
theorem zd_MO_numberParts_8 : decode zc_MO_numberParts 8 = .ok (.aload_n 0, 1) := by decide +kernel
theorem zd_MO_numberParts_9 : decode zc_MO_numberParts 9 = .ok (.getfield 7, 3) := by decide +kernel
theorem zd_MO_numberParts_12 : decode zc_MO_numberParts 12 = .ok (.if_icmp .ge 16, 3) := by decide +kernel
theorem zd_MO_numberParts_15 : decode zc_MO_numberParts 15 = .ok (.aload_n 0, 1) := by decide +kernel
theorem zd_MO_numberParts_16 : decode zc_MO_numberParts 16 = .ok (.getfield 20, 3) := by decide +kernel
theorem zd_MO_numberParts_19 : decode zc_MO_numberParts 19 = .ok (.iload_n 1, 1) := by decide +kernel
theorem zd_MO_numberParts_20 : decode zc_MO_numberParts 20 = .ok (.iconst (-1), 1) := by decide +kernel
theorem zd_MO_numberParts_21 : decode zc_MO_numberParts 21 = .ok (.iastore, 1) := by decide +kernel
theorem zd_MO_numberParts_22 : decode zc_MO_numberParts 22 = .ok (.iinc 1 1, 3) := by decide +kernel
theorem zd_MO_numberParts_25 : decode zc_MO_numberParts 25 = .ok (.goto (-18), 3) := by decide +kernel
theorem zd_MO_numberParts_28 : decode zc_MO_numberParts 28 = .ok (.aload_n 0, 1) := by decide +kernel
theorem zd_MO_numberParts_29 : decode zc_MO_numberParts 29 = .ok (.getfield 7, 3) := by decide +kernel
theorem zd_MO_numberParts_32 : decode zc_MO_numberParts 32 = .ok (.istore_n 1, 1) := by decide +kernel
theorem zd_MO_numberParts_33 : decode zc_MO_numberParts 33 = .ok (.iload_n 1, 1) := by decide +kernel
theorem zd_MO_numberParts_34 : decode zc_MO_numberParts 34 = .ok (.ifCond .le 80, 3) := by decide +kernel
theorem zd_MO_numberParts_37 : decode zc_MO_numberParts 37 = .ok (.iconst 0, 1) := by decide +kernel
theorem zd_MO_numberParts_38 : decode zc_MO_numberParts 38 = .ok (.istore_n 2, 1) := by decide +kernel
theorem zd_MO_numberParts_39 : decode zc_MO_numberParts 39 = .ok (.aload_n 0, 1) := by decide +kernel
theorem zd_MO_numberParts_40 : decode zc_MO_numberParts 40 = .ok (.getfield 20, 3) := by decide +kernel
theorem zd_MO_numberParts_43 : decode zc_MO_numberParts 43 = .ok (.iload_n 2, 1) := by decide +kernel
theorem zd_MO_numberParts_44 : decode zc_MO_numberParts 44 = .ok (.iaload, 1) := by decide +kernel
theorem zd_MO_numberParts_45 : decode zc_MO_numberParts 45 = .ok (.iconst (-1), 1) := by decide +kernel
theorem zd_MO_numberParts_46 : decode zc_MO_numberParts 46 = .ok (.if_icmp .ne 11, 3) := by decide +kernel
theorem zd_MO_numberParts_49 : decode zc_MO_numberParts 49 = .ok (.aload_n 0, 1) := by decide +kernel
theorem zd_MO_numberParts_50 : decode zc_MO_numberParts 50 = .ok (.iload_n 2, 1) := by decide +kernel
theorem zd_MO_numberParts_51 : decode zc_MO_numberParts 51 = .ok (.invokevirtual 82, 3) := by decide +kernel
theorem zd_MO_numberParts_54 : decode zc_MO_numberParts 54 = .ok (.ifCond .eq 9, 3) := by decide +kernel
theorem zd_MO_numberParts_57 : decode zc_MO_numberParts 57 = .ok (.iinc 2 1, 3) := by decide +kernel
theorem zd_MO_numberParts_60 : decode zc_MO_numberParts 60 = .ok (.goto (-21), 3) := by decide +kernel
theorem zd_MO_numberParts_63 : decode zc_MO_numberParts 63 = .ok (.iconst 0, 1) := by decide +kernel
theorem zd_MO_numberParts_64 : decode zc_MO_numberParts 64 = .ok (.istore_n 3, 1) := by decide +kernel
theorem zd_MO_numberParts_65 : decode zc_MO_numberParts 65 = .ok (.iload_n 3, 1) := by decide +kernel
theorem zd_MO_numberParts_66 : decode zc_MO_numberParts 66 = .ok (.aload_n 0, 1) := by decide +kernel
theorem zd_MO_numberParts_67 : decode zc_MO_numberParts 67 = .ok (.getfield 7, 3) := by decide +kernel
theorem zd_MO_numberParts_70 : decode zc_MO_numberParts 70 = .ok (.if_icmp .ge 31, 3) := by decide +kernel
theorem zd_MO_numberParts_73 : decode zc_MO_numberParts 73 = .ok (.aload_n 0, 1) := by decide +kernel
theorem zd_MO_numberParts_74 : decode zc_MO_numberParts 74 = .ok (.iload_n 3, 1) := by decide +kernel
theorem zd_MO_numberParts_75 : decode zc_MO_numberParts 75 = .ok (.iload_n 2, 1) := by decide +kernel
theorem zd_MO_numberParts_76 : decode zc_MO_numberParts 76 = .ok (.invokevirtual 75, 3) := by decide +kernel
theorem zd_MO_numberParts_79 : decode zc_MO_numberParts 79 = .ok (.ifCond .eq 16, 3) := by decide +kernel
theorem zd_MO_numberParts_82 : decode zc_MO_numberParts 82 = .ok (.aload_n 0, 1) := by decide +kernel
theorem zd_MO_numberParts_83 : decode zc_MO_numberParts 83 = .ok (.getfield 20, 3) := by decide +kernel
theorem zd_MO_numberParts_86 : decode zc_MO_numberParts 86 = .ok (.iload_n 3, 1) := by decide +kernel
theorem zd_MO_numberParts_87 : decode zc_MO_numberParts 87 = .ok (.aload_n 0, 1) := by decide +kernel
theorem zd_MO_numberParts_88 : decode zc_MO_numberParts 88 = .ok (.getfield 79, 3) := by decide +kernel
theorem zd_MO_numberParts_91 : decode zc_MO_numberParts 91 = .ok (.iastore, 1) := by decide +kernel
theorem zd_MO_numberParts_92 : decode zc_MO_numberParts 92 = .ok (.iinc 1 (-1), 3) := by decide +kernel
theorem zd_MO_numberParts_95 : decode zc_MO_numberParts 95 = .ok (.iinc 3 1, 3) := by decide +kernel
theorem zd_MO_numberParts_98 : decode zc_MO_numberParts 98 = .ok (.goto (-33), 3) := by decide +kernel
theorem zd_MO_numberParts_101 : decode zc_MO_numberParts 101 = .ok (.aload_n 0, 1) := by decide +kernel
theorem zd_MO_numberParts_102 : decode zc_MO_numberParts 102 = .ok (.dup, 1) := by decide +kernel
theorem zd_MO_numberParts_103 : decode zc_MO_numberParts 103 = .ok (.getfield 79, 3) := by decide +kernel
theorem zd_MO_numberParts_106 : decode zc_MO_numberParts 106 = .ok (.iconst 1, 1) := by decide +kernel
theorem zd_MO_numberParts_107 : decode zc_MO_numberParts 107 = .ok (.iadd, 1) := by decide +kernel
theorem zd_MO_numberParts_108 : decode zc_MO_numberParts 108 = .ok (.putfield 79, 3) := by decide +kernel
theorem zd_MO_numberParts_111 : decode zc_MO_numberParts 111 = .ok (.goto (-78), 3) := by decide +kernel
theorem zd_MO_numberParts_114 : decode zc_MO_numberParts 114 = .ok (.return_, 1) := by decide +kernel
theorem zd_MO_isHeld_0 : decode zc_MO_isHeld 0 = .ok (.iconst 0, 1) := by decide +kernel
theorem zd_MO_isHeld_1 : decode zc_MO_isHeld 1 = .ok (.istore_n 2, 1) := by decide +kernel
theorem zd_MO_isHeld_2 : decode zc_MO_isHeld 2 = .ok (.iload_n 2, 1) := by decide +kernel
theorem zd_MO_isHeld_3 : decode zc_MO_isHeld 3 = .ok (.aload_n 0, 1) := by decide +kernel
theorem zd_MO_isHeld_4 : decode zc_MO_isHeld 4 = .ok (.getfield 7, 3) := by decide +kernel
theorem zd_MO_isHeld_7 : decode zc_MO_isHeld 7 = .ok (.if_icmp .ge 43, 3) := by decide +kernel
theorem zd_MO_isHeld_10 : decode zc_MO_isHeld 10 = .ok (.aload_n 0, 1) := by decide +kernel
theorem zd_MO_isHeld_11 : decode zc_MO_isHeld 11 = .ok (.getfield 20, 3) := by decide +kernel
theorem zd_MO_isHeld_14 : decode zc_MO_isHeld 14 = .ok (.iload_n 2, 1) := by decide +kernel
theorem zd_MO_isHeld_15 : decode zc_MO_isHeld 15 = .ok (.iaload, 1) := by decide +kernel
theorem zd_MO_isHeld_16 : decode zc_MO_isHeld 16 = .ok (.iconst (-1), 1) := by decide +kernel
theorem zd_MO_isHeld_17 : decode zc_MO_isHeld 17 = .ok (.if_icmp .ne 27, 3) := by decide +kernel
theorem zd_MO_isHeld_20 : decode zc_MO_isHeld 20 = .ok (.aload_n 0, 1) := by decide +kernel
theorem zd_MO_isHeld_21 : decode zc_MO_isHeld 21 = .ok (.iload_n 2, 1) := by decide +kernel
theorem zd_MO_isHeld_22 : decode zc_MO_isHeld 22 = .ok (.iload_n 1, 1) := by decide +kernel
theorem zd_MO_isHeld_23 : decode zc_MO_isHeld 23 = .ok (.invokevirtual 75, 3) := by decide +kernel
theorem zd_MO_isHeld_26 : decode zc_MO_isHeld 26 = .ok (.ifCond .ne 18, 3) := by decide +kernel
theorem zd_MO_isHeld_29 : decode zc_MO_isHeld 29 = .ok (.aload_n 0, 1) := by decide +kernel
theorem zd_MO_isHeld_30 : decode zc_MO_isHeld 30 = .ok (.getfield 17, 3) := by decide +kernel
theorem zd_MO_isHeld_33 : decode zc_MO_isHeld 33 = .ok (.iload_n 2, 1) := by decide +kernel
theorem zd_MO_isHeld_34 : decode zc_MO_isHeld 34 = .ok (.iload_n 1, 1) := by decide +kernel
theorem zd_MO_isHeld_35 : decode zc_MO_isHeld 35 = .ok (.invokestatic 71, 3) := by decide +kernel
theorem zd_MO_isHeld_38 : decode zc_MO_isHeld 38 = .ok (.baload, 1) := by decide +kernel
theorem zd_MO_isHeld_39 : decode zc_MO_isHeld 39 = .ok (.ifCond .eq 5, 3) := by decide +kernel
theorem zd_MO_isHeld_42 : decode zc_MO_isHeld 42 = .ok (.iconst 1, 1) := by decide +kernel
theorem zd_MO_isHeld_43 : decode zc_MO_isHeld 43 = .ok (.ireturn, 1) := by decide +kernel
theorem zd_MO_isHeld_44 : decode zc_MO_isHeld 44 = .ok (.iinc 2 1, 3) := by decide +kernel
theorem zd_MO_isHeld_47 : decode zc_MO_isHeld 47 = .ok (.goto (-45), 3) := by decide +kernel
theorem zd_MO_isHeld_50 : decode zc_MO_isHeld 50 = .ok (.iconst 0, 1) := by decide +kernel
theorem zd_MO_isHeld_51 : decode zc_MO_isHeld 51 = .ok (.ireturn, 1) := by decide +kernel
theorem zd_MO_areOne_0 : decode zc_MO_areOne 0 = .ok (.aload_n 0, 1) := by decide +kernel
theorem zd_MO_areOne_1 : decode zc_MO_areOne 1 = .ok (.getfield 17, 3) := by decide +kernel
theorem zd_MO_areOne_4 : decode zc_MO_areOne 4 = .ok (.iload_n 1, 1) := by decide +kernel
theorem zd_MO_areOne_5 : decode zc_MO_areOne 5 = .ok (.iload_n 2, 1) := by decide +kernel
theorem zd_MO_areOne_6 : decode zc_MO_areOne 6 = .ok (.invokestatic 71, 3) := by decide +kernel
theorem zd_MO_areOne_9 : decode zc_MO_areOne 9 = .ok (.baload, 1) := by decide +kernel
theorem zd_MO_areOne_10 : decode zc_MO_areOne 10 = .ok (.ifCond .eq 20, 3) := by decide +kernel
theorem zd_MO_areOne_13 : decode zc_MO_areOne 13 = .ok (.aload_n 0, 1) := by decide +kernel
theorem zd_MO_areOne_14 : decode zc_MO_areOne 14 = .ok (.getfield 17, 3) := by decide +kernel
theorem zd_MO_areOne_17 : decode zc_MO_areOne 17 = .ok (.iload_n 2, 1) := by decide +kernel
theorem zd_MO_areOne_18 : decode zc_MO_areOne 18 = .ok (.iload_n 1, 1) := by decide +kernel
theorem zd_MO_areOne_19 : decode zc_MO_areOne 19 = .ok (.invokestatic 71, 3) := by decide +kernel
theorem zd_MO_areOne_22 : decode zc_MO_areOne 22 = .ok (.baload, 1) := by decide +kernel
theorem zd_MO_areOne_23 : decode zc_MO_areOne 23 = .ok (.ifCond .eq 7, 3) := by decide +kernel
theorem zd_MO_areOne_26 : decode zc_MO_areOne 26 = .ok (.iconst 1, 1) := by decide +kernel
theorem zd_MO_areOne_27 : decode zc_MO_areOne 27 = .ok (.goto 4, 3) := by decide +kernel
theorem zd_MO_areOne_30 : decode zc_MO_areOne 30 = .ok (.iconst 0, 1) := by decide +kernel
theorem zd_MO_areOne_31 : decode zc_MO_areOne 31 = .ok (.ireturn, 1) := by decide +kernel
theorem zd_MO_drawParts_0 : decode zc_MO_drawParts 0 = .ok (.iconst 0, 1) := by decide +kernel
theorem zd_MO_drawParts_1 : decode zc_MO_drawParts 1 = .ok (.istore_n 1, 1) := by decide +kernel
theorem zd_MO_drawParts_2 : decode zc_MO_drawParts 2 = .ok (.iload_n 1, 1) := by decide +kernel
theorem zd_MO_drawParts_3 : decode zc_MO_drawParts 3 = .ok (.sipush 25600, 3) := by decide +kernel
theorem zd_MO_drawParts_6 : decode zc_MO_drawParts 6 = .ok (.if_icmp .ge 16, 3) := by decide +kernel
theorem zd_MO_drawParts_9 : decode zc_MO_drawParts 9 = .ok (.aload_n 0, 1) := by decide +kernel
theorem zd_MO_drawParts_10 : decode zc_MO_drawParts 10 = .ok (.getfield 27, 3) := by decide +kernel
theorem zd_MO_drawParts_13 : decode zc_MO_drawParts 13 = .ok (.iload_n 1, 1) := by decide +kernel
theorem zd_MO_drawParts_14 : decode zc_MO_drawParts 14 = .ok (.iconst 0, 1) := by decide +kernel
theorem zd_MO_drawParts_15 : decode zc_MO_drawParts 15 = .ok (.bastore, 1) := by decide +kernel
theorem zd_MO_drawParts_16 : decode zc_MO_drawParts 16 = .ok (.iinc 1 1, 3) := by decide +kernel
theorem zd_MO_drawParts_19 : decode zc_MO_drawParts 19 = .ok (.goto (-17), 3) := by decide +kernel
theorem zd_MO_drawParts_22 : decode zc_MO_drawParts 22 = .ok (.aload_n 0, 1) := by decide +kernel
theorem zd_MO_drawParts_23 : decode zc_MO_drawParts 23 = .ok (.getfield 7, 3) := by decide +kernel
theorem zd_MO_drawParts_26 : decode zc_MO_drawParts 26 = .ok (.iconst 1, 1) := by decide +kernel
theorem zd_MO_drawParts_27 : decode zc_MO_drawParts 27 = .ok (.isub, 1) := by decide +kernel
theorem zd_MO_drawParts_28 : decode zc_MO_drawParts 28 = .ok (.istore_n 1, 1) := by decide +kernel
theorem zd_MO_drawParts_29 : decode zc_MO_drawParts 29 = .ok (.iload_n 1, 1) := by decide +kernel
theorem zd_MO_drawParts_30 : decode zc_MO_drawParts 30 = .ok (.ifCond .lt 86, 3) := by decide +kernel
theorem zd_MO_drawParts_33 : decode zc_MO_drawParts 33 = .ok (.aload_n 0, 1) := by decide +kernel
theorem zd_MO_drawParts_34 : decode zc_MO_drawParts 34 = .ok (.getfield 30, 3) := by decide +kernel
theorem zd_MO_drawParts_37 : decode zc_MO_drawParts 37 = .ok (.aload_n 0, 1) := by decide +kernel
theorem zd_MO_drawParts_38 : decode zc_MO_drawParts 38 = .ok (.getfield 20, 3) := by decide +kernel
theorem zd_MO_drawParts_41 : decode zc_MO_drawParts 41 = .ok (.iload_n 1, 1) := by decide +kernel
theorem zd_MO_drawParts_42 : decode zc_MO_drawParts 42 = .ok (.iaload, 1) := by decide +kernel
theorem zd_MO_drawParts_43 : decode zc_MO_drawParts 43 = .ok (.iload_n 1, 1) := by decide +kernel
theorem zd_MO_drawParts_44 : decode zc_MO_drawParts 44 = .ok (.iastore, 1) := by decide +kernel
theorem zd_MO_drawParts_45 : decode zc_MO_drawParts 45 = .ok (.iconst 0, 1) := by decide +kernel
theorem zd_MO_drawParts_46 : decode zc_MO_drawParts 46 = .ok (.istore_n 2, 1) := by decide +kernel
theorem zd_MO_drawParts_47 : decode zc_MO_drawParts 47 = .ok (.iload_n 2, 1) := by decide +kernel
theorem zd_MO_drawParts_48 : decode zc_MO_drawParts 48 = .ok (.aload_n 0, 1) := by decide +kernel
theorem zd_MO_drawParts_49 : decode zc_MO_drawParts 49 = .ok (.getfield 7, 3) := by decide +kernel
theorem zd_MO_drawParts_52 : decode zc_MO_drawParts 52 = .ok (.if_icmp .ge 58, 3) := by decide +kernel
theorem zd_MO_drawParts_55 : decode zc_MO_drawParts 55 = .ok (.aload_n 0, 1) := by decide +kernel
theorem zd_MO_drawParts_56 : decode zc_MO_drawParts 56 = .ok (.getfield 13, 3) := by decide +kernel
theorem zd_MO_drawParts_59 : decode zc_MO_drawParts 59 = .ok (.iload_n 1, 1) := by decide +kernel
theorem zd_MO_drawParts_60 : decode zc_MO_drawParts 60 = .ok (.iload_n 2, 1) := by decide +kernel
theorem zd_MO_drawParts_61 : decode zc_MO_drawParts 61 = .ok (.invokestatic 71, 3) := by decide +kernel
theorem zd_MO_drawParts_64 : decode zc_MO_drawParts 64 = .ok (.baload, 1) := by decide +kernel
theorem zd_MO_drawParts_65 : decode zc_MO_drawParts 65 = .ok (.ifCond .eq 39, 3) := by decide +kernel
theorem zd_MO_drawParts_68 : decode zc_MO_drawParts 68 = .ok (.aload_n 0, 1) := by decide +kernel
theorem zd_MO_drawParts_69 : decode zc_MO_drawParts 69 = .ok (.getfield 20, 3) := by decide +kernel
theorem zd_MO_drawParts_72 : decode zc_MO_drawParts 72 = .ok (.iload_n 1, 1) := by decide +kernel
theorem zd_MO_drawParts_73 : decode zc_MO_drawParts 73 = .ok (.iaload, 1) := by decide +kernel
theorem zd_MO_drawParts_74 : decode zc_MO_drawParts 74 = .ok (.aload_n 0, 1) := by decide +kernel
theorem zd_MO_drawParts_75 : decode zc_MO_drawParts 75 = .ok (.getfield 20, 3) := by decide +kernel
theorem zd_MO_drawParts_78 : decode zc_MO_drawParts 78 = .ok (.iload_n 2, 1) := by decide +kernel
theorem zd_MO_drawParts_79 : decode zc_MO_drawParts 79 = .ok (.iaload, 1) := by decide +kernel
theorem zd_MO_drawParts_80 : decode zc_MO_drawParts 80 = .ok (.if_icmp .eq 24, 3) := by decide +kernel
theorem zd_MO_drawParts_83 : decode zc_MO_drawParts 83 = .ok (.aload_n 0, 1) := by decide +kernel
theorem zd_MO_drawParts_84 : decode zc_MO_drawParts 84 = .ok (.getfield 27, 3) := by decide +kernel
theorem zd_MO_drawParts_87 : decode zc_MO_drawParts 87 = .ok (.aload_n 0, 1) := by decide +kernel
theorem zd_MO_drawParts_88 : decode zc_MO_drawParts 88 = .ok (.getfield 20, 3) := by decide +kernel
theorem zd_MO_drawParts_91 : decode zc_MO_drawParts 91 = .ok (.iload_n 1, 1) := by decide +kernel
theorem zd_MO_drawParts_92 : decode zc_MO_drawParts 92 = .ok (.iaload, 1) := by decide +kernel
theorem zd_MO_drawParts_93 : decode zc_MO_drawParts 93 = .ok (.aload_n 0, 1) := by decide +kernel
theorem zd_MO_drawParts_94 : decode zc_MO_drawParts 94 = .ok (.getfield 20, 3) := by decide +kernel
theorem zd_MO_drawParts_97 : decode zc_MO_drawParts 97 = .ok (.iload_n 2, 1) := by decide +kernel
theorem zd_MO_drawParts_98 : decode zc_MO_drawParts 98 = .ok (.iaload, 1) := by decide +kernel
theorem zd_MO_drawParts_99 : decode zc_MO_drawParts 99 = .ok (.invokestatic 71, 3) := by decide +kernel
theorem zd_MO_drawParts_102 : decode zc_MO_drawParts 102 = .ok (.iconst 1, 1) := by decide +kernel
theorem zd_MO_drawParts_103 : decode zc_MO_drawParts 103 = .ok (.bastore, 1) := by decide +kernel
theorem zd_MO_drawParts_104 : decode zc_MO_drawParts 104 = .ok (.iinc 2 1, 3) := by decide +kernel
theorem zd_MO_drawParts_107 : decode zc_MO_drawParts 107 = .ok (.goto (-60), 3) := by decide +kernel
theorem zd_MO_drawParts_110 : decode zc_MO_drawParts 110 = .ok (.iinc 1 (-1), 3) := by decide +kernel
theorem zd_MO_drawParts_113 : decode zc_MO_drawParts 113 = .ok (.goto (-84), 3) := by decide +kernel
theorem zd_MO_drawParts_116 : decode zc_MO_drawParts 116 = .ok (.return_, 1) := by decide +kernel
theorem zd_MO_goesTo_0 : decode zc_MO_goesTo 0 = .ok (.aload_n 0, 1) := by decide +kernel
theorem zd_MO_goesTo_1 : decode zc_MO_goesTo 1 = .ok (.getfield 27, 3) := by decide +kernel
theorem zd_MO_goesTo_4 : decode zc_MO_goesTo 4 = .ok (.iload_n 1, 1) := by decide +kernel
theorem zd_MO_goesTo_5 : decode zc_MO_goesTo 5 = .ok (.iload_n 2, 1) := by decide +kernel
theorem zd_MO_goesTo_6 : decode zc_MO_goesTo 6 = .ok (.invokestatic 71, 3) := by decide +kernel
theorem zd_MO_goesTo_9 : decode zc_MO_goesTo 9 = .ok (.baload, 1) := by decide +kernel
theorem zd_MO_goesTo_10 : decode zc_MO_goesTo 10 = .ok (.ireturn, 1) := by decide +kernel
theorem zd_MO_part_0 : decode zc_MO_part 0 = .ok (.aload_n 0, 1) := by decide +kernel
theorem zd_MO_part_1 : decode zc_MO_part 1 = .ok (.aload_n 0, 1) := by decide +kernel
theorem zd_MO_part_2 : decode zc_MO_part 2 = .ok (.iload_n 1, 1) := by decide +kernel
theorem zd_MO_part_3 : decode zc_MO_part 3 = .ok (.invokevirtual 67, 3) := by decide +kernel
theorem zd_MO_part_6 : decode zc_MO_part 6 = .ok (.ifCond .eq 7, 3) := by decide +kernel
theorem zd_MO_part_9 : decode zc_MO_part 9 = .ok (.iconst 1, 1) := by decide +kernel
theorem zd_MO_part_10 : decode zc_MO_part 10 = .ok (.goto 4, 3) := by decide +kernel
theorem zd_MO_part_13 : decode zc_MO_part 13 = .ok (.iconst 0, 1) := by decide +kernel
theorem zd_MO_part_14 : decode zc_MO_part 14 = .ok (.putfield 57, 3) := by decide +kernel
theorem zd_MO_part_17 : decode zc_MO_part 17 = .ok (.aload_n 0, 1) := by decide +kernel
theorem zd_MO_part_18 : decode zc_MO_part 18 = .ok (.getfield 57, 3) := by decide +kernel
theorem zd_MO_part_21 : decode zc_MO_part 21 = .ok (.ifCond .le 5, 3) := by decide +kernel
theorem zd_MO_part_24 : decode zc_MO_part 24 = .ok (.iconst 0, 1) := by decide +kernel
theorem zd_MO_part_25 : decode zc_MO_part 25 = .ok (.ireturn, 1) := by decide +kernel
theorem zd_MO_part_26 : decode zc_MO_part 26 = .ok (.aload_n 0, 1) := by decide +kernel
theorem zd_MO_part_27 : decode zc_MO_part 27 = .ok (.invokevirtual 98, 3) := by decide +kernel
theorem zd_MO_part_30 : decode zc_MO_part 30 = .ok (.aload_n 0, 1) := by decide +kernel
theorem zd_MO_part_31 : decode zc_MO_part 31 = .ok (.getfield 20, 3) := by decide +kernel
theorem zd_MO_part_34 : decode zc_MO_part 34 = .ok (.iload_n 1, 1) := by decide +kernel
theorem zd_MO_part_35 : decode zc_MO_part 35 = .ok (.iaload, 1) := by decide +kernel
theorem zd_MO_part_36 : decode zc_MO_part 36 = .ok (.ireturn, 1) := by decide +kernel
theorem zd_MO_about_0 : decode zc_MO_about 0 = .ok (.aload_n 0, 1) := by decide +kernel
theorem zd_MO_about_1 : decode zc_MO_about 1 = .ok (.invokevirtual 98, 3) := by decide +kernel
theorem zd_MO_about_4 : decode zc_MO_about 4 = .ok (.aload_n 0, 1) := by decide +kernel
theorem zd_MO_about_5 : decode zc_MO_about 5 = .ok (.iload_n 1, 1) := by decide +kernel
theorem zd_MO_about_6 : decode zc_MO_about 6 = .ok (.ifCond .lt 11, 3) := by decide +kernel
theorem zd_MO_about_9 : decode zc_MO_about 9 = .ok (.iload_n 1, 1) := by decide +kernel
theorem zd_MO_about_10 : decode zc_MO_about 10 = .ok (.aload_n 0, 1) := by decide +kernel
theorem zd_MO_about_11 : decode zc_MO_about 11 = .ok (.getfield 79, 3) := by decide +kernel
theorem zd_MO_about_14 : decode zc_MO_about 14 = .ok (.if_icmp .lt 7, 3) := by decide +kernel
theorem zd_MO_about_17 : decode zc_MO_about 17 = .ok (.iconst 1, 1) := by decide +kernel
theorem zd_MO_about_18 : decode zc_MO_about 18 = .ok (.goto 18, 3) := by decide +kernel
theorem zd_MO_about_21 : decode zc_MO_about 21 = .ok (.iload_n 2, 1) := by decide +kernel
theorem zd_MO_about_22 : decode zc_MO_about 22 = .ok (.ifCond .lt 9, 3) := by decide +kernel
theorem zd_MO_about_25 : decode zc_MO_about 25 = .ok (.iload_n 2, 1) := by decide +kernel
theorem zd_MO_about_26 : decode zc_MO_about 26 = .ok (.bipush 6, 2) := by decide +kernel
theorem zd_MO_about_28 : decode zc_MO_about 28 = .ok (.if_icmp .le 7, 3) := by decide +kernel
theorem zd_MO_about_31 : decode zc_MO_about 31 = .ok (.iconst 2, 1) := by decide +kernel
theorem zd_MO_about_32 : decode zc_MO_about 32 = .ok (.goto 4, 3) := by decide +kernel
theorem zd_MO_about_35 : decode zc_MO_about 35 = .ok (.iconst 0, 1) := by decide +kernel
theorem zd_MO_about_36 : decode zc_MO_about 36 = .ok (.putfield 57, 3) := by decide +kernel
theorem zd_MO_about_39 : decode zc_MO_about 39 = .ok (.aload_n 0, 1) := by decide +kernel
theorem zd_MO_about_40 : decode zc_MO_about 40 = .ok (.getfield 57, 3) := by decide +kernel
theorem zd_MO_about_43 : decode zc_MO_about 43 = .ok (.ifCond .le 5, 3) := by decide +kernel
theorem zd_MO_about_46 : decode zc_MO_about 46 = .ok (.iconst 0, 1) := by decide +kernel
theorem zd_MO_about_47 : decode zc_MO_about 47 = .ok (.ireturn, 1) := by decide +kernel
theorem zd_MO_about_48 : decode zc_MO_about 48 = .ok (.iconst 0, 1) := by decide +kernel
theorem zd_MO_about_49 : decode zc_MO_about 49 = .ok (.istore_n 3, 1) := by decide +kernel
theorem zd_MO_about_50 : decode zc_MO_about 50 = .ok (.iconst 0, 1) := by decide +kernel
theorem zd_MO_about_51 : decode zc_MO_about 51 = .ok (.istore 4, 2) := by decide +kernel
theorem zd_MO_about_53 : decode zc_MO_about 53 = .ok (.iload 4, 2) := by decide +kernel
theorem zd_MO_about_55 : decode zc_MO_about 55 = .ok (.aload_n 0, 1) := by decide +kernel
theorem zd_MO_about_56 : decode zc_MO_about 56 = .ok (.getfield 7, 3) := by decide +kernel
theorem zd_MO_about_59 : decode zc_MO_about 59 = .ok (.if_icmp .ge 28, 3) := by decide +kernel
theorem zd_MO_about_62 : decode zc_MO_about 62 = .ok (.aload_n 0, 1) := by decide +kernel
theorem zd_MO_about_63 : decode zc_MO_about 63 = .ok (.getfield 20, 3) := by decide +kernel
theorem zd_MO_about_66 : decode zc_MO_about 66 = .ok (.iload 4, 2) := by decide +kernel
theorem zd_MO_about_68 : decode zc_MO_about 68 = .ok (.iaload, 1) := by decide +kernel
theorem zd_MO_about_69 : decode zc_MO_about 69 = .ok (.iload_n 1, 1) := by decide +kernel
theorem zd_MO_about_70 : decode zc_MO_about 70 = .ok (.if_icmp .ne 9, 3) := by decide +kernel
theorem zd_MO_about_73 : decode zc_MO_about 73 = .ok (.iload_n 3, 1) := by decide +kernel
theorem zd_MO_about_74 : decode zc_MO_about 74 = .ok (.iconst 1, 1) := by decide +kernel
theorem zd_MO_about_75 : decode zc_MO_about 75 = .ok (.iadd, 1) := by decide +kernel
theorem zd_MO_about_76 : decode zc_MO_about 76 = .ok (.goto 4, 3) := by decide +kernel
theorem zd_MO_about_79 : decode zc_MO_about 79 = .ok (.iload_n 3, 1) := by decide +kernel
theorem zd_MO_about_80 : decode zc_MO_about 80 = .ok (.istore_n 3, 1) := by decide +kernel
theorem zd_MO_about_81 : decode zc_MO_about 81 = .ok (.iinc 4 1, 3) := by decide +kernel
theorem zd_MO_about_84 : decode zc_MO_about 84 = .ok (.goto (-31), 3) := by decide +kernel
theorem zd_MO_about_87 : decode zc_MO_about 87 = .ok (.iload_n 2, 1) := by decide +kernel
theorem zd_MO_about_88 : decode zc_MO_about 88 = .ok (.tableswitch 77 0 5 #[40, 42, 49, 56, 63, 70], 40) := by decide +kernel
theorem zd_MO_about_128 : decode zc_MO_about 128 = .ok (.iload_n 3, 1) := by decide +kernel
theorem zd_MO_about_129 : decode zc_MO_about 129 = .ok (.ireturn, 1) := by decide +kernel
theorem zd_MO_about_130 : decode zc_MO_about 130 = .ok (.aload_n 0, 1) := by decide +kernel
theorem zd_MO_about_131 : decode zc_MO_about 131 = .ok (.getfield 30, 3) := by decide +kernel
theorem zd_MO_about_134 : decode zc_MO_about 134 = .ok (.iload_n 1, 1) := by decide +kernel
theorem zd_MO_about_135 : decode zc_MO_about 135 = .ok (.iaload, 1) := by decide +kernel
theorem zd_MO_about_136 : decode zc_MO_about 136 = .ok (.ireturn, 1) := by decide +kernel
theorem zd_MO_about_137 : decode zc_MO_about 137 = .ok (.aload_n 0, 1) := by decide +kernel
theorem zd_MO_about_138 : decode zc_MO_about 138 = .ok (.iload_n 1, 1) := by decide +kernel
theorem zd_MO_about_139 : decode zc_MO_about 139 = .ok (.iconst 1, 1) := by decide +kernel
theorem zd_MO_about_140 : decode zc_MO_about 140 = .ok (.invokevirtual 101, 3) := by decide +kernel
theorem zd_MO_about_143 : decode zc_MO_about 143 = .ok (.ireturn, 1) := by decide +kernel
theorem zd_MO_about_144 : decode zc_MO_about 144 = .ok (.aload_n 0, 1) := by decide +kernel
theorem zd_MO_about_145 : decode zc_MO_about 145 = .ok (.iload_n 1, 1) := by decide +kernel
theorem zd_MO_about_146 : decode zc_MO_about 146 = .ok (.iconst 0, 1) := by decide +kernel
theorem zd_MO_about_147 : decode zc_MO_about 147 = .ok (.invokevirtual 101, 3) := by decide +kernel
theorem zd_MO_about_150 : decode zc_MO_about 150 = .ok (.ireturn, 1) := by decide +kernel
theorem zd_MO_about_151 : decode zc_MO_about 151 = .ok (.aload_n 0, 1) := by decide +kernel
theorem zd_MO_about_152 : decode zc_MO_about 152 = .ok (.iload_n 1, 1) := by decide +kernel
theorem zd_MO_about_153 : decode zc_MO_about 153 = .ok (.iconst 0, 1) := by decide +kernel
theorem zd_MO_about_154 : decode zc_MO_about 154 = .ok (.invokevirtual 105, 3) := by decide +kernel
theorem zd_MO_about_157 : decode zc_MO_about 157 = .ok (.ireturn, 1) := by decide +kernel
theorem zd_MO_about_158 : decode zc_MO_about 158 = .ok (.aload_n 0, 1) := by decide +kernel
theorem zd_MO_about_159 : decode zc_MO_about 159 = .ok (.iload_n 1, 1) := by decide +kernel
theorem zd_MO_about_160 : decode zc_MO_about 160 = .ok (.iconst 1, 1) := by decide +kernel
theorem zd_MO_about_161 : decode zc_MO_about 161 = .ok (.invokevirtual 105, 3) := by decide +kernel
theorem zd_MO_about_164 : decode zc_MO_about 164 = .ok (.ireturn, 1) := by decide +kernel
theorem zd_MO_about_165 : decode zc_MO_about 165 = .ok (.aload_n 0, 1) := by decide +kernel
theorem zd_MO_about_166 : decode zc_MO_about 166 = .ok (.getfield 24, 3) := by decide +kernel
theorem zd_MO_about_169 : decode zc_MO_about 169 = .ok (.iload_n 1, 1) := by decide +kernel
theorem zd_MO_about_170 : decode zc_MO_about 170 = .ok (.iaload, 1) := by decide +kernel
theorem zd_MO_about_171 : decode zc_MO_about 171 = .ok (.ireturn, 1) := by decide +kernel
theorem zd_MO_arcsOf_0 : decode zc_MO_arcsOf 0 = .ok (.iconst 0, 1) := by decide +kernel
theorem zd_MO_arcsOf_1 : decode zc_MO_arcsOf 1 = .ok (.istore_n 3, 1) := by decide +kernel
theorem zd_MO_arcsOf_2 : decode zc_MO_arcsOf 2 = .ok (.iconst 0, 1) := by decide +kernel
theorem zd_MO_arcsOf_3 : decode zc_MO_arcsOf 3 = .ok (.istore 4, 2) := by decide +kernel
theorem zd_MO_arcsOf_5 : decode zc_MO_arcsOf 5 = .ok (.iload 4, 2) := by decide +kernel
theorem zd_MO_arcsOf_7 : decode zc_MO_arcsOf 7 = .ok (.aload_n 0, 1) := by decide +kernel
theorem zd_MO_arcsOf_8 : decode zc_MO_arcsOf 8 = .ok (.getfield 7, 3) := by decide +kernel
theorem zd_MO_arcsOf_11 : decode zc_MO_arcsOf 11 = .ok (.if_icmp .ge 81, 3) := by decide +kernel
theorem zd_MO_arcsOf_14 : decode zc_MO_arcsOf 14 = .ok (.iconst 0, 1) := by decide +kernel
theorem zd_MO_arcsOf_15 : decode zc_MO_arcsOf 15 = .ok (.istore 5, 2) := by decide +kernel
theorem zd_MO_arcsOf_17 : decode zc_MO_arcsOf 17 = .ok (.iload 5, 2) := by decide +kernel
theorem zd_MO_arcsOf_19 : decode zc_MO_arcsOf 19 = .ok (.aload_n 0, 1) := by decide +kernel
theorem zd_MO_arcsOf_20 : decode zc_MO_arcsOf 20 = .ok (.getfield 7, 3) := by decide +kernel
theorem zd_MO_arcsOf_23 : decode zc_MO_arcsOf 23 = .ok (.if_icmp .ge 63, 3) := by decide +kernel
theorem zd_MO_arcsOf_26 : decode zc_MO_arcsOf 26 = .ok (.aload_n 0, 1) := by decide +kernel
theorem zd_MO_arcsOf_27 : decode zc_MO_arcsOf 27 = .ok (.getfield 20, 3) := by decide +kernel
theorem zd_MO_arcsOf_30 : decode zc_MO_arcsOf 30 = .ok (.iload 4, 2) := by decide +kernel
theorem zd_MO_arcsOf_32 : decode zc_MO_arcsOf 32 = .ok (.iaload, 1) := by decide +kernel
theorem zd_MO_arcsOf_33 : decode zc_MO_arcsOf 33 = .ok (.iload_n 1, 1) := by decide +kernel
theorem zd_MO_arcsOf_34 : decode zc_MO_arcsOf 34 = .ok (.if_icmp .ne 52, 3) := by decide +kernel
theorem zd_MO_arcsOf_37 : decode zc_MO_arcsOf 37 = .ok (.aload_n 0, 1) := by decide +kernel
theorem zd_MO_arcsOf_38 : decode zc_MO_arcsOf 38 = .ok (.getfield 13, 3) := by decide +kernel
theorem zd_MO_arcsOf_41 : decode zc_MO_arcsOf 41 = .ok (.iload 4, 2) := by decide +kernel
theorem zd_MO_arcsOf_43 : decode zc_MO_arcsOf 43 = .ok (.iload 5, 2) := by decide +kernel
theorem zd_MO_arcsOf_45 : decode zc_MO_arcsOf 45 = .ok (.invokestatic 71, 3) := by decide +kernel
theorem zd_MO_arcsOf_48 : decode zc_MO_arcsOf 48 = .ok (.baload, 1) := by decide +kernel
theorem zd_MO_arcsOf_49 : decode zc_MO_arcsOf 49 = .ok (.ifCond .eq 29, 3) := by decide +kernel
theorem zd_MO_arcsOf_52 : decode zc_MO_arcsOf 52 = .ok (.aload_n 0, 1) := by decide +kernel
theorem zd_MO_arcsOf_53 : decode zc_MO_arcsOf 53 = .ok (.getfield 20, 3) := by decide +kernel
theorem zd_MO_arcsOf_56 : decode zc_MO_arcsOf 56 = .ok (.iload 5, 2) := by decide +kernel
theorem zd_MO_arcsOf_58 : decode zc_MO_arcsOf 58 = .ok (.iaload, 1) := by decide +kernel
theorem zd_MO_arcsOf_59 : decode zc_MO_arcsOf 59 = .ok (.iload_n 1, 1) := by decide +kernel
theorem zd_MO_arcsOf_60 : decode zc_MO_arcsOf 60 = .ok (.if_icmp .ne 7, 3) := by decide +kernel
theorem zd_MO_arcsOf_63 : decode zc_MO_arcsOf 63 = .ok (.iconst 1, 1) := by decide +kernel
theorem zd_MO_arcsOf_64 : decode zc_MO_arcsOf 64 = .ok (.goto 4, 3) := by decide +kernel
theorem zd_MO_arcsOf_67 : decode zc_MO_arcsOf 67 = .ok (.iconst 0, 1) := by decide +kernel
theorem zd_MO_arcsOf_68 : decode zc_MO_arcsOf 68 = .ok (.iload_n 2, 1) := by decide +kernel
theorem zd_MO_arcsOf_69 : decode zc_MO_arcsOf 69 = .ok (.if_icmp .ne 9, 3) := by decide +kernel
theorem zd_MO_arcsOf_72 : decode zc_MO_arcsOf 72 = .ok (.iload_n 3, 1) := by decide +kernel
theorem zd_MO_arcsOf_73 : decode zc_MO_arcsOf 73 = .ok (.iconst 1, 1) := by decide +kernel
theorem zd_MO_arcsOf_74 : decode zc_MO_arcsOf 74 = .ok (.iadd, 1) := by decide +kernel
theorem zd_MO_arcsOf_75 : decode zc_MO_arcsOf 75 = .ok (.goto 4, 3) := by decide +kernel
theorem zd_MO_arcsOf_78 : decode zc_MO_arcsOf 78 = .ok (.iload_n 3, 1) := by decide +kernel
theorem zd_MO_arcsOf_79 : decode zc_MO_arcsOf 79 = .ok (.istore_n 3, 1) := by decide +kernel
theorem zd_MO_arcsOf_80 : decode zc_MO_arcsOf 80 = .ok (.iinc 5 1, 3) := by decide +kernel
theorem zd_MO_arcsOf_83 : decode zc_MO_arcsOf 83 = .ok (.goto (-66), 3) := by decide +kernel
theorem zd_MO_arcsOf_86 : decode zc_MO_arcsOf 86 = .ok (.iinc 4 1, 3) := by decide +kernel
theorem zd_MO_arcsOf_89 : decode zc_MO_arcsOf 89 = .ok (.goto (-84), 3) := by decide +kernel
theorem zd_MO_arcsOf_92 : decode zc_MO_arcsOf 92 = .ok (.iload_n 3, 1) := by decide +kernel
theorem zd_MO_arcsOf_93 : decode zc_MO_arcsOf 93 = .ok (.ireturn, 1) := by decide +kernel
theorem zd_MO_alone_0 : decode zc_MO_alone 0 = .ok (.iconst 0, 1) := by decide +kernel
theorem zd_MO_alone_1 : decode zc_MO_alone 1 = .ok (.istore_n 3, 1) := by decide +kernel
theorem zd_MO_alone_2 : decode zc_MO_alone 2 = .ok (.iconst 0, 1) := by decide +kernel
theorem zd_MO_alone_3 : decode zc_MO_alone 3 = .ok (.istore 4, 2) := by decide +kernel
theorem zd_MO_alone_5 : decode zc_MO_alone 5 = .ok (.iload 4, 2) := by decide +kernel
theorem zd_MO_alone_7 : decode zc_MO_alone 7 = .ok (.aload_n 0, 1) := by decide +kernel
theorem zd_MO_alone_8 : decode zc_MO_alone 8 = .ok (.getfield 79, 3) := by decide +kernel
theorem zd_MO_alone_11 : decode zc_MO_alone 11 = .ok (.if_icmp .ge 107, 3) := by decide +kernel
theorem zd_MO_alone_14 : decode zc_MO_alone 14 = .ok (.aload_n 0, 1) := by decide +kernel
theorem zd_MO_alone_15 : decode zc_MO_alone 15 = .ok (.iload_n 1, 1) := by decide +kernel
theorem zd_MO_alone_16 : decode zc_MO_alone 16 = .ok (.iload 4, 2) := by decide +kernel
theorem zd_MO_alone_18 : decode zc_MO_alone 18 = .ok (.invokevirtual 95, 3) := by decide +kernel
theorem zd_MO_alone_21 : decode zc_MO_alone 21 = .ok (.istore 5, 2) := by decide +kernel
theorem zd_MO_alone_23 : decode zc_MO_alone 23 = .ok (.iconst 0, 1) := by decide +kernel
theorem zd_MO_alone_24 : decode zc_MO_alone 24 = .ok (.istore 6, 2) := by decide +kernel
theorem zd_MO_alone_26 : decode zc_MO_alone 26 = .ok (.iload 6, 2) := by decide +kernel
theorem zd_MO_alone_28 : decode zc_MO_alone 28 = .ok (.aload_n 0, 1) := by decide +kernel
theorem zd_MO_alone_29 : decode zc_MO_alone 29 = .ok (.getfield 79, 3) := by decide +kernel
theorem zd_MO_alone_32 : decode zc_MO_alone 32 = .ok (.if_icmp .ge 67, 3) := by decide +kernel
theorem zd_MO_alone_35 : decode zc_MO_alone 35 = .ok (.iload 5, 2) := by decide +kernel
theorem zd_MO_alone_37 : decode zc_MO_alone 37 = .ok (.ifCond .eq 62, 3) := by decide +kernel
theorem zd_MO_alone_40 : decode zc_MO_alone 40 = .ok (.iload_n 2, 1) := by decide +kernel
theorem zd_MO_alone_41 : decode zc_MO_alone 41 = .ok (.ifCond .eq 58, 3) := by decide +kernel
theorem zd_MO_alone_44 : decode zc_MO_alone 44 = .ok (.iload 6, 2) := by decide +kernel
theorem zd_MO_alone_46 : decode zc_MO_alone 46 = .ok (.iload 4, 2) := by decide +kernel
theorem zd_MO_alone_48 : decode zc_MO_alone 48 = .ok (.if_icmp .eq 38, 3) := by decide +kernel
theorem zd_MO_alone_51 : decode zc_MO_alone 51 = .ok (.aload_n 0, 1) := by decide +kernel
theorem zd_MO_alone_52 : decode zc_MO_alone 52 = .ok (.iload_n 1, 1) := by decide +kernel
theorem zd_MO_alone_53 : decode zc_MO_alone 53 = .ok (.iload 6, 2) := by decide +kernel
theorem zd_MO_alone_55 : decode zc_MO_alone 55 = .ok (.invokevirtual 95, 3) := by decide +kernel
theorem zd_MO_alone_58 : decode zc_MO_alone 58 = .ok (.ifCond .eq 28, 3) := by decide +kernel
theorem zd_MO_alone_61 : decode zc_MO_alone 61 = .ok (.aload_n 0, 1) := by decide +kernel
theorem zd_MO_alone_62 : decode zc_MO_alone 62 = .ok (.getfield 17, 3) := by decide +kernel
theorem zd_MO_alone_65 : decode zc_MO_alone 65 = .ok (.aload_n 0, 1) := by decide +kernel
theorem zd_MO_alone_66 : decode zc_MO_alone 66 = .ok (.getfield 30, 3) := by decide +kernel
theorem zd_MO_alone_69 : decode zc_MO_alone 69 = .ok (.iload 6, 2) := by decide +kernel
theorem zd_MO_alone_71 : decode zc_MO_alone 71 = .ok (.iaload, 1) := by decide +kernel
theorem zd_MO_alone_72 : decode zc_MO_alone 72 = .ok (.aload_n 0, 1) := by decide +kernel
theorem zd_MO_alone_73 : decode zc_MO_alone 73 = .ok (.getfield 30, 3) := by decide +kernel
theorem zd_MO_alone_76 : decode zc_MO_alone 76 = .ok (.iload 4, 2) := by decide +kernel
theorem zd_MO_alone_78 : decode zc_MO_alone 78 = .ok (.iaload, 1) := by decide +kernel
theorem zd_MO_alone_79 : decode zc_MO_alone 79 = .ok (.invokestatic 71, 3) := by decide +kernel
theorem zd_MO_alone_82 : decode zc_MO_alone 82 = .ok (.baload, 1) := by decide +kernel
theorem zd_MO_alone_83 : decode zc_MO_alone 83 = .ok (.ifCond .ne 7, 3) := by decide +kernel
theorem zd_MO_alone_86 : decode zc_MO_alone 86 = .ok (.iconst 1, 1) := by decide +kernel
theorem zd_MO_alone_87 : decode zc_MO_alone 87 = .ok (.goto 4, 3) := by decide +kernel
theorem zd_MO_alone_90 : decode zc_MO_alone 90 = .ok (.iconst 0, 1) := by decide +kernel
theorem zd_MO_alone_91 : decode zc_MO_alone 91 = .ok (.istore 5, 2) := by decide +kernel
theorem zd_MO_alone_93 : decode zc_MO_alone 93 = .ok (.iinc 6 1, 3) := by decide +kernel
theorem zd_MO_alone_96 : decode zc_MO_alone 96 = .ok (.goto (-70), 3) := by decide +kernel
theorem zd_MO_alone_99 : decode zc_MO_alone 99 = .ok (.iload 5, 2) := by decide +kernel
theorem zd_MO_alone_101 : decode zc_MO_alone 101 = .ok (.ifCond .eq 9, 3) := by decide +kernel
theorem zd_MO_alone_104 : decode zc_MO_alone 104 = .ok (.iload_n 3, 1) := by decide +kernel
theorem zd_MO_alone_105 : decode zc_MO_alone 105 = .ok (.iconst 1, 1) := by decide +kernel
theorem zd_MO_alone_106 : decode zc_MO_alone 106 = .ok (.iadd, 1) := by decide +kernel
theorem zd_MO_alone_107 : decode zc_MO_alone 107 = .ok (.goto 4, 3) := by decide +kernel
theorem zd_MO_alone_110 : decode zc_MO_alone 110 = .ok (.iload_n 3, 1) := by decide +kernel
theorem zd_MO_alone_111 : decode zc_MO_alone 111 = .ok (.istore_n 3, 1) := by decide +kernel
theorem zd_MO_alone_112 : decode zc_MO_alone 112 = .ok (.iinc 4 1, 3) := by decide +kernel
theorem zd_MO_alone_115 : decode zc_MO_alone 115 = .ok (.goto (-110), 3) := by decide +kernel
theorem zd_MO_alone_118 : decode zc_MO_alone 118 = .ok (.iload_n 3, 1) := by decide +kernel
theorem zd_MO_alone_119 : decode zc_MO_alone 119 = .ok (.ireturn, 1) := by decide +kernel
