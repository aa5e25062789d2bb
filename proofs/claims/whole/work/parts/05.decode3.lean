theorem zd_MO_reaches_0 : decode zc_MO_reaches 0 = .ok (.aload_n 0, 1) := by decide +kernel
theorem zd_MO_reaches_1 : decode zc_MO_reaches 1 = .ok (.aload_n 0, 1) := by decide +kernel
theorem zd_MO_reaches_2 : decode zc_MO_reaches 2 = .ok (.iload_n 1, 1) := by decide +kernel
theorem zd_MO_reaches_3 : decode zc_MO_reaches 3 = .ok (.invokevirtual 67, 3) := by decide +kernel
theorem zd_MO_reaches_6 : decode zc_MO_reaches 6 = .ok (.ifCond .ne 11, 3) := by decide +kernel
theorem zd_MO_reaches_9 : decode zc_MO_reaches 9 = .ok (.aload_n 0, 1) := by decide +kernel
theorem zd_MO_reaches_10 : decode zc_MO_reaches 10 = .ok (.iload_n 2, 1) := by decide +kernel
theorem zd_MO_reaches_11 : decode zc_MO_reaches 11 = .ok (.invokevirtual 67, 3) := by decide +kernel
theorem zd_MO_reaches_14 : decode zc_MO_reaches 14 = .ok (.ifCond .eq 7, 3) := by decide +kernel
theorem zd_MO_reaches_17 : decode zc_MO_reaches 17 = .ok (.iconst 1, 1) := by decide +kernel
theorem zd_MO_reaches_18 : decode zc_MO_reaches 18 = .ok (.goto 4, 3) := by decide +kernel
theorem zd_MO_reaches_21 : decode zc_MO_reaches 21 = .ok (.iconst 0, 1) := by decide +kernel
theorem zd_MO_reaches_22 : decode zc_MO_reaches 22 = .ok (.putfield 57, 3) := by decide +kernel
theorem zd_MO_reaches_25 : decode zc_MO_reaches 25 = .ok (.aload_n 0, 1) := by decide +kernel
theorem zd_MO_reaches_26 : decode zc_MO_reaches 26 = .ok (.getfield 57, 3) := by decide +kernel
theorem zd_MO_reaches_29 : decode zc_MO_reaches 29 = .ok (.ifCond .le 5, 3) := by decide +kernel
theorem zd_MO_reaches_32 : decode zc_MO_reaches 32 = .ok (.iconst 0, 1) := by decide +kernel
theorem zd_MO_reaches_33 : decode zc_MO_reaches 33 = .ok (.ireturn, 1) := by decide +kernel
theorem zd_MO_reaches_34 : decode zc_MO_reaches 34 = .ok (.aload_n 0, 1) := by decide +kernel
theorem zd_MO_reaches_35 : decode zc_MO_reaches 35 = .ok (.invokevirtual 98, 3) := by decide +kernel
theorem zd_MO_reaches_38 : decode zc_MO_reaches 38 = .ok (.aload_n 0, 1) := by decide +kernel
theorem zd_MO_reaches_39 : decode zc_MO_reaches 39 = .ok (.getfield 17, 3) := by decide +kernel
theorem zd_MO_reaches_42 : decode zc_MO_reaches 42 = .ok (.iload_n 1, 1) := by decide +kernel
theorem zd_MO_reaches_43 : decode zc_MO_reaches 43 = .ok (.iload_n 2, 1) := by decide +kernel
theorem zd_MO_reaches_44 : decode zc_MO_reaches 44 = .ok (.invokestatic 71, 3) := by decide +kernel
theorem zd_MO_reaches_47 : decode zc_MO_reaches 47 = .ok (.baload, 1) := by decide +kernel
theorem zd_MO_reaches_48 : decode zc_MO_reaches 48 = .ok (.ireturn, 1) := by decide +kernel
theorem zd_MO_walk_0 : decode zc_MO_walk 0 = .ok (.aload_n 0, 1) := by decide +kernel
theorem zd_MO_walk_1 : decode zc_MO_walk 1 = .ok (.aload_n 0, 1) := by decide +kernel
theorem zd_MO_walk_2 : decode zc_MO_walk 2 = .ok (.iload_n 1, 1) := by decide +kernel
theorem zd_MO_walk_3 : decode zc_MO_walk 3 = .ok (.invokevirtual 67, 3) := by decide +kernel
theorem zd_MO_walk_6 : decode zc_MO_walk 6 = .ok (.ifCond .ne 11, 3) := by decide +kernel
theorem zd_MO_walk_9 : decode zc_MO_walk 9 = .ok (.aload_n 0, 1) := by decide +kernel
theorem zd_MO_walk_10 : decode zc_MO_walk 10 = .ok (.iload_n 2, 1) := by decide +kernel
theorem zd_MO_walk_11 : decode zc_MO_walk 11 = .ok (.invokevirtual 67, 3) := by decide +kernel
theorem zd_MO_walk_14 : decode zc_MO_walk 14 = .ok (.ifCond .eq 7, 3) := by decide +kernel
theorem zd_MO_walk_17 : decode zc_MO_walk 17 = .ok (.iconst 1, 1) := by decide +kernel
theorem zd_MO_walk_18 : decode zc_MO_walk 18 = .ok (.goto 4, 3) := by decide +kernel
theorem zd_MO_walk_21 : decode zc_MO_walk 21 = .ok (.iconst 0, 1) := by decide +kernel
theorem zd_MO_walk_22 : decode zc_MO_walk 22 = .ok (.putfield 57, 3) := by decide +kernel
theorem zd_MO_walk_25 : decode zc_MO_walk 25 = .ok (.aload_n 0, 1) := by decide +kernel
theorem zd_MO_walk_26 : decode zc_MO_walk 26 = .ok (.getfield 57, 3) := by decide +kernel
theorem zd_MO_walk_29 : decode zc_MO_walk 29 = .ok (.ifCond .le 5, 3) := by decide +kernel
theorem zd_MO_walk_32 : decode zc_MO_walk 32 = .ok (.iconst 0, 1) := by decide +kernel
theorem zd_MO_walk_33 : decode zc_MO_walk 33 = .ok (.ireturn, 1) := by decide +kernel
theorem zd_MO_walk_34 : decode zc_MO_walk 34 = .ok (.aload_n 0, 1) := by decide +kernel
theorem zd_MO_walk_35 : decode zc_MO_walk 35 = .ok (.aload_n 0, 1) := by decide +kernel
theorem zd_MO_walk_36 : decode zc_MO_walk 36 = .ok (.getfield 13, 3) := by decide +kernel
theorem zd_MO_walk_39 : decode zc_MO_walk 39 = .ok (.aload_n 0, 1) := by decide +kernel
theorem zd_MO_walk_40 : decode zc_MO_walk 40 = .ok (.getfield 7, 3) := by decide +kernel
theorem zd_MO_walk_43 : decode zc_MO_walk 43 = .ok (.iload_n 1, 1) := by decide +kernel
theorem zd_MO_walk_44 : decode zc_MO_walk 44 = .ok (.invokevirtual 109, 3) := by decide +kernel
theorem zd_MO_walk_47 : decode zc_MO_walk 47 = .ok (.aload_n 0, 1) := by decide +kernel
theorem zd_MO_walk_48 : decode zc_MO_walk 48 = .ok (.getfield 51, 3) := by decide +kernel
theorem zd_MO_walk_51 : decode zc_MO_walk 51 = .ok (.iload_n 2, 1) := by decide +kernel
theorem zd_MO_walk_52 : decode zc_MO_walk 52 = .ok (.iaload, 1) := by decide +kernel
theorem zd_MO_walk_53 : decode zc_MO_walk 53 = .ok (.ldc 108, 2) := by decide +kernel
theorem zd_MO_walk_55 : decode zc_MO_walk 55 = .ok (.if_icmp .ne 7, 3) := by decide +kernel
theorem zd_MO_walk_58 : decode zc_MO_walk 58 = .ok (.iconst (-1), 1) := by decide +kernel
theorem zd_MO_walk_59 : decode zc_MO_walk 59 = .ok (.goto 9, 3) := by decide +kernel
theorem zd_MO_walk_62 : decode zc_MO_walk 62 = .ok (.aload_n 0, 1) := by decide +kernel
theorem zd_MO_walk_63 : decode zc_MO_walk 63 = .ok (.getfield 51, 3) := by decide +kernel
theorem zd_MO_walk_66 : decode zc_MO_walk 66 = .ok (.iload_n 2, 1) := by decide +kernel
theorem zd_MO_walk_67 : decode zc_MO_walk 67 = .ok (.iaload, 1) := by decide +kernel
theorem zd_MO_walk_68 : decode zc_MO_walk 68 = .ok (.ireturn, 1) := by decide +kernel
theorem zd_MO_walkFrom_0 : decode zc_MO_walkFrom 0 = .ok (.iconst 0, 1) := by decide +kernel
theorem zd_MO_walkFrom_1 : decode zc_MO_walkFrom 1 = .ok (.istore 4, 2) := by decide +kernel
theorem zd_MO_walkFrom_3 : decode zc_MO_walkFrom 3 = .ok (.iconst 0, 1) := by decide +kernel
theorem zd_MO_walkFrom_4 : decode zc_MO_walkFrom 4 = .ok (.istore 5, 2) := by decide +kernel
theorem zd_MO_walkFrom_6 : decode zc_MO_walkFrom 6 = .ok (.iload 5, 2) := by decide +kernel
theorem zd_MO_walkFrom_8 : decode zc_MO_walkFrom 8 = .ok (.iload_n 2, 1) := by decide +kernel
theorem zd_MO_walkFrom_9 : decode zc_MO_walkFrom 9 = .ok (.if_icmp .ge 49, 3) := by decide +kernel
theorem zd_MO_walkFrom_12 : decode zc_MO_walkFrom 12 = .ok (.aload_n 0, 1) := by decide +kernel
theorem zd_MO_walkFrom_13 : decode zc_MO_walkFrom 13 = .ok (.getfield 51, 3) := by decide +kernel
theorem zd_MO_walkFrom_16 : decode zc_MO_walkFrom 16 = .ok (.iload 5, 2) := by decide +kernel
theorem zd_MO_walkFrom_18 : decode zc_MO_walkFrom 18 = .ok (.ldc 108, 2) := by decide +kernel
theorem zd_MO_walkFrom_20 : decode zc_MO_walkFrom 20 = .ok (.iastore, 1) := by decide +kernel
theorem zd_MO_walkFrom_21 : decode zc_MO_walkFrom 21 = .ok (.aload_n 1, 1) := by decide +kernel
theorem zd_MO_walkFrom_22 : decode zc_MO_walkFrom 22 = .ok (.iload_n 3, 1) := by decide +kernel
theorem zd_MO_walkFrom_23 : decode zc_MO_walkFrom 23 = .ok (.iload 5, 2) := by decide +kernel
theorem zd_MO_walkFrom_25 : decode zc_MO_walkFrom 25 = .ok (.invokestatic 71, 3) := by decide +kernel
theorem zd_MO_walkFrom_28 : decode zc_MO_walkFrom 28 = .ok (.baload, 1) := by decide +kernel
theorem zd_MO_walkFrom_29 : decode zc_MO_walkFrom 29 = .ok (.ifCond .eq 23, 3) := by decide +kernel
theorem zd_MO_walkFrom_32 : decode zc_MO_walkFrom 32 = .ok (.aload_n 0, 1) := by decide +kernel
theorem zd_MO_walkFrom_33 : decode zc_MO_walkFrom 33 = .ok (.getfield 51, 3) := by decide +kernel
theorem zd_MO_walkFrom_36 : decode zc_MO_walkFrom 36 = .ok (.iload 5, 2) := by decide +kernel
theorem zd_MO_walkFrom_38 : decode zc_MO_walkFrom 38 = .ok (.iconst 1, 1) := by decide +kernel
theorem zd_MO_walkFrom_39 : decode zc_MO_walkFrom 39 = .ok (.iastore, 1) := by decide +kernel
theorem zd_MO_walkFrom_40 : decode zc_MO_walkFrom 40 = .ok (.aload_n 0, 1) := by decide +kernel
theorem zd_MO_walkFrom_41 : decode zc_MO_walkFrom 41 = .ok (.getfield 54, 3) := by decide +kernel
theorem zd_MO_walkFrom_44 : decode zc_MO_walkFrom 44 = .ok (.iload 4, 2) := by decide +kernel
theorem zd_MO_walkFrom_46 : decode zc_MO_walkFrom 46 = .ok (.iload 5, 2) := by decide +kernel
theorem zd_MO_walkFrom_48 : decode zc_MO_walkFrom 48 = .ok (.iastore, 1) := by decide +kernel
theorem zd_MO_walkFrom_49 : decode zc_MO_walkFrom 49 = .ok (.iinc 4 1, 3) := by decide +kernel
theorem zd_MO_walkFrom_52 : decode zc_MO_walkFrom 52 = .ok (.iinc 5 1, 3) := by decide +kernel
theorem zd_MO_walkFrom_55 : decode zc_MO_walkFrom 55 = .ok (.goto (-49), 3) := by decide +kernel
theorem zd_MO_walkFrom_58 : decode zc_MO_walkFrom 58 = .ok (.iconst 0, 1) := by decide +kernel
theorem zd_MO_walkFrom_59 : decode zc_MO_walkFrom 59 = .ok (.istore 5, 2) := by decide +kernel
theorem zd_MO_walkFrom_61 : decode zc_MO_walkFrom 61 = .ok (.iload 5, 2) := by decide +kernel
theorem zd_MO_walkFrom_63 : decode zc_MO_walkFrom 63 = .ok (.iload 4, 2) := by decide +kernel
theorem zd_MO_walkFrom_65 : decode zc_MO_walkFrom 65 = .ok (.if_icmp .ge 85, 3) := by decide +kernel
theorem zd_MO_walkFrom_68 : decode zc_MO_walkFrom 68 = .ok (.aload_n 0, 1) := by decide +kernel
theorem zd_MO_walkFrom_69 : decode zc_MO_walkFrom 69 = .ok (.getfield 54, 3) := by decide +kernel
theorem zd_MO_walkFrom_72 : decode zc_MO_walkFrom 72 = .ok (.iload 5, 2) := by decide +kernel
theorem zd_MO_walkFrom_74 : decode zc_MO_walkFrom 74 = .ok (.iaload, 1) := by decide +kernel
theorem zd_MO_walkFrom_75 : decode zc_MO_walkFrom 75 = .ok (.istore 6, 2) := by decide +kernel
theorem zd_MO_walkFrom_77 : decode zc_MO_walkFrom 77 = .ok (.iconst 0, 1) := by decide +kernel
theorem zd_MO_walkFrom_78 : decode zc_MO_walkFrom 78 = .ok (.istore 7, 2) := by decide +kernel
theorem zd_MO_walkFrom_80 : decode zc_MO_walkFrom 80 = .ok (.iload 7, 2) := by decide +kernel
theorem zd_MO_walkFrom_82 : decode zc_MO_walkFrom 82 = .ok (.iload_n 2, 1) := by decide +kernel
theorem zd_MO_walkFrom_83 : decode zc_MO_walkFrom 83 = .ok (.if_icmp .ge 61, 3) := by decide +kernel
theorem zd_MO_walkFrom_86 : decode zc_MO_walkFrom 86 = .ok (.aload_n 1, 1) := by decide +kernel
theorem zd_MO_walkFrom_87 : decode zc_MO_walkFrom 87 = .ok (.iload 6, 2) := by decide +kernel
theorem zd_MO_walkFrom_89 : decode zc_MO_walkFrom 89 = .ok (.iload 7, 2) := by decide +kernel
theorem zd_MO_walkFrom_91 : decode zc_MO_walkFrom 91 = .ok (.invokestatic 71, 3) := by decide +kernel
theorem zd_MO_walkFrom_94 : decode zc_MO_walkFrom 94 = .ok (.baload, 1) := by decide +kernel
theorem zd_MO_walkFrom_95 : decode zc_MO_walkFrom 95 = .ok (.ifCond .eq 43, 3) := by decide +kernel
theorem zd_MO_walkFrom_98 : decode zc_MO_walkFrom 98 = .ok (.aload_n 0, 1) := by decide +kernel
theorem zd_MO_walkFrom_99 : decode zc_MO_walkFrom 99 = .ok (.getfield 51, 3) := by decide +kernel
theorem zd_MO_walkFrom_102 : decode zc_MO_walkFrom 102 = .ok (.iload 7, 2) := by decide +kernel
theorem zd_MO_walkFrom_104 : decode zc_MO_walkFrom 104 = .ok (.iaload, 1) := by decide +kernel
theorem zd_MO_walkFrom_105 : decode zc_MO_walkFrom 105 = .ok (.ldc 108, 2) := by decide +kernel
theorem zd_MO_walkFrom_107 : decode zc_MO_walkFrom 107 = .ok (.if_icmp .ne 31, 3) := by decide +kernel
theorem zd_MO_walkFrom_110 : decode zc_MO_walkFrom 110 = .ok (.aload_n 0, 1) := by decide +kernel
theorem zd_MO_walkFrom_111 : decode zc_MO_walkFrom 111 = .ok (.getfield 51, 3) := by decide +kernel
theorem zd_MO_walkFrom_114 : decode zc_MO_walkFrom 114 = .ok (.iload 7, 2) := by decide +kernel
theorem zd_MO_walkFrom_116 : decode zc_MO_walkFrom 116 = .ok (.aload_n 0, 1) := by decide +kernel
theorem zd_MO_walkFrom_117 : decode zc_MO_walkFrom 117 = .ok (.getfield 51, 3) := by decide +kernel
theorem zd_MO_walkFrom_120 : decode zc_MO_walkFrom 120 = .ok (.iload 6, 2) := by decide +kernel
theorem zd_MO_walkFrom_122 : decode zc_MO_walkFrom 122 = .ok (.iaload, 1) := by decide +kernel
theorem zd_MO_walkFrom_123 : decode zc_MO_walkFrom 123 = .ok (.iconst 1, 1) := by decide +kernel
theorem zd_MO_walkFrom_124 : decode zc_MO_walkFrom 124 = .ok (.iadd, 1) := by decide +kernel
theorem zd_MO_walkFrom_125 : decode zc_MO_walkFrom 125 = .ok (.iastore, 1) := by decide +kernel
theorem zd_MO_walkFrom_126 : decode zc_MO_walkFrom 126 = .ok (.aload_n 0, 1) := by decide +kernel
theorem zd_MO_walkFrom_127 : decode zc_MO_walkFrom 127 = .ok (.getfield 54, 3) := by decide +kernel
theorem zd_MO_walkFrom_130 : decode zc_MO_walkFrom 130 = .ok (.iload 4, 2) := by decide +kernel
theorem zd_MO_walkFrom_132 : decode zc_MO_walkFrom 132 = .ok (.iload 7, 2) := by decide +kernel
theorem zd_MO_walkFrom_134 : decode zc_MO_walkFrom 134 = .ok (.iastore, 1) := by decide +kernel
theorem zd_MO_walkFrom_135 : decode zc_MO_walkFrom 135 = .ok (.iinc 4 1, 3) := by decide +kernel
theorem zd_MO_walkFrom_138 : decode zc_MO_walkFrom 138 = .ok (.iinc 7 1, 3) := by decide +kernel
theorem zd_MO_walkFrom_141 : decode zc_MO_walkFrom 141 = .ok (.goto (-61), 3) := by decide +kernel
theorem zd_MO_walkFrom_144 : decode zc_MO_walkFrom 144 = .ok (.iinc 5 1, 3) := by decide +kernel
theorem zd_MO_walkFrom_147 : decode zc_MO_walkFrom 147 = .ok (.goto (-86), 3) := by decide +kernel
theorem zd_MO_walkFrom_150 : decode zc_MO_walkFrom 150 = .ok (.return_, 1) := by decide +kernel
theorem zd_MO_counted_0 : decode zc_MO_counted 0 = .ok (.aload_n 0, 1) := by decide +kernel
theorem zd_MO_counted_1 : decode zc_MO_counted 1 = .ok (.aload_n 0, 1) := by decide +kernel
theorem zd_MO_counted_2 : decode zc_MO_counted 2 = .ok (.iload_n 1, 1) := by decide +kernel
theorem zd_MO_counted_3 : decode zc_MO_counted 3 = .ok (.invokevirtual 67, 3) := by decide +kernel
theorem zd_MO_counted_6 : decode zc_MO_counted 6 = .ok (.ifCond .eq 7, 3) := by decide +kernel
theorem zd_MO_counted_9 : decode zc_MO_counted 9 = .ok (.iconst 1, 1) := by decide +kernel
theorem zd_MO_counted_10 : decode zc_MO_counted 10 = .ok (.goto 17, 3) := by decide +kernel
theorem zd_MO_counted_13 : decode zc_MO_counted 13 = .ok (.iload_n 2, 1) := by decide +kernel
theorem zd_MO_counted_14 : decode zc_MO_counted 14 = .ok (.ifCond .lt 8, 3) := by decide +kernel
theorem zd_MO_counted_17 : decode zc_MO_counted 17 = .ok (.iload_n 2, 1) := by decide +kernel
theorem zd_MO_counted_18 : decode zc_MO_counted 18 = .ok (.iconst 1, 1) := by decide +kernel
theorem zd_MO_counted_19 : decode zc_MO_counted 19 = .ok (.if_icmp .le 7, 3) := by decide +kernel
theorem zd_MO_counted_22 : decode zc_MO_counted 22 = .ok (.iconst 2, 1) := by decide +kernel
theorem zd_MO_counted_23 : decode zc_MO_counted 23 = .ok (.goto 4, 3) := by decide +kernel
theorem zd_MO_counted_26 : decode zc_MO_counted 26 = .ok (.iconst 0, 1) := by decide +kernel
theorem zd_MO_counted_27 : decode zc_MO_counted 27 = .ok (.putfield 57, 3) := by decide +kernel
theorem zd_MO_counted_30 : decode zc_MO_counted 30 = .ok (.aload_n 0, 1) := by decide +kernel
theorem zd_MO_counted_31 : decode zc_MO_counted 31 = .ok (.getfield 57, 3) := by decide +kernel
theorem zd_MO_counted_34 : decode zc_MO_counted 34 = .ok (.ifCond .le 5, 3) := by decide +kernel
theorem zd_MO_counted_37 : decode zc_MO_counted 37 = .ok (.iconst 0, 1) := by decide +kernel
theorem zd_MO_counted_38 : decode zc_MO_counted 38 = .ok (.ireturn, 1) := by decide +kernel
theorem zd_MO_counted_39 : decode zc_MO_counted 39 = .ok (.aload_n 0, 1) := by decide +kernel
theorem zd_MO_counted_40 : decode zc_MO_counted 40 = .ok (.invokevirtual 98, 3) := by decide +kernel
theorem zd_MO_counted_43 : decode zc_MO_counted 43 = .ok (.iconst 0, 1) := by decide +kernel
theorem zd_MO_counted_44 : decode zc_MO_counted 44 = .ok (.istore_n 3, 1) := by decide +kernel
theorem zd_MO_counted_45 : decode zc_MO_counted 45 = .ok (.iconst 0, 1) := by decide +kernel
theorem zd_MO_counted_46 : decode zc_MO_counted 46 = .ok (.istore 4, 2) := by decide +kernel
theorem zd_MO_counted_48 : decode zc_MO_counted 48 = .ok (.iload 4, 2) := by decide +kernel
theorem zd_MO_counted_50 : decode zc_MO_counted 50 = .ok (.aload_n 0, 1) := by decide +kernel
theorem zd_MO_counted_51 : decode zc_MO_counted 51 = .ok (.getfield 7, 3) := by decide +kernel
theorem zd_MO_counted_54 : decode zc_MO_counted 54 = .ok (.if_icmp .ge 44, 3) := by decide +kernel
theorem zd_MO_counted_57 : decode zc_MO_counted 57 = .ok (.aload_n 0, 1) := by decide +kernel
theorem zd_MO_counted_58 : decode zc_MO_counted 58 = .ok (.getfield 17, 3) := by decide +kernel
theorem zd_MO_counted_61 : decode zc_MO_counted 61 = .ok (.iload_n 2, 1) := by decide +kernel
theorem zd_MO_counted_62 : decode zc_MO_counted 62 = .ok (.ifCond .ne 12, 3) := by decide +kernel
theorem zd_MO_counted_65 : decode zc_MO_counted 65 = .ok (.iload_n 1, 1) := by decide +kernel
theorem zd_MO_counted_66 : decode zc_MO_counted 66 = .ok (.iload 4, 2) := by decide +kernel
theorem zd_MO_counted_68 : decode zc_MO_counted 68 = .ok (.invokestatic 71, 3) := by decide +kernel
theorem zd_MO_counted_71 : decode zc_MO_counted 71 = .ok (.goto 9, 3) := by decide +kernel
theorem zd_MO_counted_74 : decode zc_MO_counted 74 = .ok (.iload 4, 2) := by decide +kernel
theorem zd_MO_counted_76 : decode zc_MO_counted 76 = .ok (.iload_n 1, 1) := by decide +kernel
theorem zd_MO_counted_77 : decode zc_MO_counted 77 = .ok (.invokestatic 71, 3) := by decide +kernel
theorem zd_MO_counted_80 : decode zc_MO_counted 80 = .ok (.baload, 1) := by decide +kernel
theorem zd_MO_counted_81 : decode zc_MO_counted 81 = .ok (.ifCond .eq 9, 3) := by decide +kernel
theorem zd_MO_counted_84 : decode zc_MO_counted 84 = .ok (.iload_n 3, 1) := by decide +kernel
theorem zd_MO_counted_85 : decode zc_MO_counted 85 = .ok (.iconst 1, 1) := by decide +kernel
theorem zd_MO_counted_86 : decode zc_MO_counted 86 = .ok (.iadd, 1) := by decide +kernel
theorem zd_MO_counted_87 : decode zc_MO_counted 87 = .ok (.goto 4, 3) := by decide +kernel
theorem zd_MO_counted_90 : decode zc_MO_counted 90 = .ok (.iload_n 3, 1) := by decide +kernel
theorem zd_MO_counted_91 : decode zc_MO_counted 91 = .ok (.istore_n 3, 1) := by decide +kernel
theorem zd_MO_counted_92 : decode zc_MO_counted 92 = .ok (.iinc 4 1, 3) := by decide +kernel
theorem zd_MO_counted_95 : decode zc_MO_counted 95 = .ok (.goto (-47), 3) := by decide +kernel
theorem zd_MO_counted_98 : decode zc_MO_counted 98 = .ok (.iload_n 3, 1) := by decide +kernel
theorem zd_MO_counted_99 : decode zc_MO_counted 99 = .ok (.ireturn, 1) := by decide +kernel
theorem zd_MO_missing_0 : decode zc_MO_missing 0 = .ok (.aload_n 0, 1) := by decide +kernel
theorem zd_MO_missing_1 : decode zc_MO_missing 1 = .ok (.iconst 0, 1) := by decide +kernel
theorem zd_MO_missing_2 : decode zc_MO_missing 2 = .ok (.putfield 57, 3) := by decide +kernel
theorem zd_MO_missing_5 : decode zc_MO_missing 5 = .ok (.aload_n 0, 1) := by decide +kernel
theorem zd_MO_missing_6 : decode zc_MO_missing 6 = .ok (.invokevirtual 98, 3) := by decide +kernel
theorem zd_MO_missing_9 : decode zc_MO_missing 9 = .ok (.aload_n 0, 1) := by decide +kernel
theorem zd_MO_missing_10 : decode zc_MO_missing 10 = .ok (.getfield 79, 3) := by decide +kernel
theorem zd_MO_missing_13 : decode zc_MO_missing 13 = .ok (.iconst 1, 1) := by decide +kernel
theorem zd_MO_missing_14 : decode zc_MO_missing 14 = .ok (.if_icmp .ne 5, 3) := by decide +kernel
theorem zd_MO_missing_17 : decode zc_MO_missing 17 = .ok (.iconst 0, 1) := by decide +kernel
theorem zd_MO_missing_18 : decode zc_MO_missing 18 = .ok (.ireturn, 1) := by decide +kernel
theorem zd_MO_missing_19 : decode zc_MO_missing 19 = .ok (.iconst 0, 1) := by decide +kernel
theorem zd_MO_missing_20 : decode zc_MO_missing 20 = .ok (.istore_n 1, 1) := by decide +kernel
theorem zd_MO_missing_21 : decode zc_MO_missing 21 = .ok (.iconst 0, 1) := by decide +kernel
theorem zd_MO_missing_22 : decode zc_MO_missing 22 = .ok (.istore_n 2, 1) := by decide +kernel
theorem zd_MO_missing_23 : decode zc_MO_missing 23 = .ok (.iconst 0, 1) := by decide +kernel
theorem zd_MO_missing_24 : decode zc_MO_missing 24 = .ok (.istore_n 3, 1) := by decide +kernel
theorem zd_MO_missing_25 : decode zc_MO_missing 25 = .ok (.iload_n 3, 1) := by decide +kernel
theorem zd_MO_missing_26 : decode zc_MO_missing 26 = .ok (.aload_n 0, 1) := by decide +kernel
theorem zd_MO_missing_27 : decode zc_MO_missing 27 = .ok (.getfield 79, 3) := by decide +kernel
theorem zd_MO_missing_30 : decode zc_MO_missing 30 = .ok (.if_icmp .ge 82, 3) := by decide +kernel
theorem zd_MO_missing_33 : decode zc_MO_missing 33 = .ok (.iconst 1, 1) := by decide +kernel
theorem zd_MO_missing_34 : decode zc_MO_missing 34 = .ok (.istore 4, 2) := by decide +kernel
theorem zd_MO_missing_36 : decode zc_MO_missing 36 = .ok (.iconst 0, 1) := by decide +kernel
theorem zd_MO_missing_37 : decode zc_MO_missing 37 = .ok (.istore 5, 2) := by decide +kernel
theorem zd_MO_missing_39 : decode zc_MO_missing 39 = .ok (.iload 5, 2) := by decide +kernel
theorem zd_MO_missing_41 : decode zc_MO_missing 41 = .ok (.aload_n 0, 1) := by decide +kernel
theorem zd_MO_missing_42 : decode zc_MO_missing 42 = .ok (.getfield 79, 3) := by decide +kernel
theorem zd_MO_missing_45 : decode zc_MO_missing 45 = .ok (.if_icmp .ge 31, 3) := by decide +kernel
theorem zd_MO_missing_48 : decode zc_MO_missing 48 = .ok (.iload 4, 2) := by decide +kernel
theorem zd_MO_missing_50 : decode zc_MO_missing 50 = .ok (.ifCond .eq 17, 3) := by decide +kernel
theorem zd_MO_missing_53 : decode zc_MO_missing 53 = .ok (.aload_n 0, 1) := by decide +kernel
theorem zd_MO_missing_54 : decode zc_MO_missing 54 = .ok (.iload 5, 2) := by decide +kernel
theorem zd_MO_missing_56 : decode zc_MO_missing 56 = .ok (.iload_n 3, 1) := by decide +kernel
theorem zd_MO_missing_57 : decode zc_MO_missing 57 = .ok (.invokevirtual 95, 3) := by decide +kernel
theorem zd_MO_missing_60 : decode zc_MO_missing 60 = .ok (.ifCond .ne 7, 3) := by decide +kernel
theorem zd_MO_missing_63 : decode zc_MO_missing 63 = .ok (.iconst 1, 1) := by decide +kernel
theorem zd_MO_missing_64 : decode zc_MO_missing 64 = .ok (.goto 4, 3) := by decide +kernel
theorem zd_MO_missing_67 : decode zc_MO_missing 67 = .ok (.iconst 0, 1) := by decide +kernel
theorem zd_MO_missing_68 : decode zc_MO_missing 68 = .ok (.istore 4, 2) := by decide +kernel
theorem zd_MO_missing_70 : decode zc_MO_missing 70 = .ok (.iinc 5 1, 3) := by decide +kernel
theorem zd_MO_missing_73 : decode zc_MO_missing 73 = .ok (.goto (-34), 3) := by decide +kernel
theorem zd_MO_missing_76 : decode zc_MO_missing 76 = .ok (.iload 4, 2) := by decide +kernel
theorem zd_MO_missing_78 : decode zc_MO_missing 78 = .ok (.ifCond .eq 9, 3) := by decide +kernel
theorem zd_MO_missing_81 : decode zc_MO_missing 81 = .ok (.iload_n 1, 1) := by decide +kernel
theorem zd_MO_missing_82 : decode zc_MO_missing 82 = .ok (.iconst 1, 1) := by decide +kernel
theorem zd_MO_missing_83 : decode zc_MO_missing 83 = .ok (.iadd, 1) := by decide +kernel
theorem zd_MO_missing_84 : decode zc_MO_missing 84 = .ok (.goto 4, 3) := by decide +kernel
theorem zd_MO_missing_87 : decode zc_MO_missing 87 = .ok (.iload_n 1, 1) := by decide +kernel
theorem zd_MO_missing_88 : decode zc_MO_missing 88 = .ok (.istore_n 1, 1) := by decide +kernel
theorem zd_MO_missing_89 : decode zc_MO_missing 89 = .ok (.aload_n 0, 1) := by decide +kernel
theorem zd_MO_missing_90 : decode zc_MO_missing 90 = .ok (.iload_n 3, 1) := by decide +kernel
theorem zd_MO_missing_91 : decode zc_MO_missing 91 = .ok (.iconst 0, 1) := by decide +kernel
theorem zd_MO_missing_92 : decode zc_MO_missing 92 = .ok (.invokevirtual 105, 3) := by decide +kernel
theorem zd_MO_missing_95 : decode zc_MO_missing 95 = .ok (.ifCond .ne 9, 3) := by decide +kernel
theorem zd_MO_missing_98 : decode zc_MO_missing 98 = .ok (.iload_n 2, 1) := by decide +kernel
theorem zd_MO_missing_99 : decode zc_MO_missing 99 = .ok (.iconst 1, 1) := by decide +kernel
theorem zd_MO_missing_100 : decode zc_MO_missing 100 = .ok (.iadd, 1) := by decide +kernel
theorem zd_MO_missing_101 : decode zc_MO_missing 101 = .ok (.goto 4, 3) := by decide +kernel
theorem zd_MO_missing_104 : decode zc_MO_missing 104 = .ok (.iload_n 2, 1) := by decide +kernel
theorem zd_MO_missing_105 : decode zc_MO_missing 105 = .ok (.istore_n 2, 1) := by decide +kernel
theorem zd_MO_missing_106 : decode zc_MO_missing 106 = .ok (.iinc 3 1, 3) := by decide +kernel
theorem zd_MO_missing_109 : decode zc_MO_missing 109 = .ok (.goto (-84), 3) := by decide +kernel
theorem zd_MO_missing_112 : decode zc_MO_missing 112 = .ok (.iload_n 1, 1) := by decide +kernel
theorem zd_MO_missing_113 : decode zc_MO_missing 113 = .ok (.iload_n 2, 1) := by decide +kernel
theorem zd_MO_missing_114 : decode zc_MO_missing 114 = .ok (.if_icmp .le 7, 3) := by decide +kernel
theorem zd_MO_missing_117 : decode zc_MO_missing 117 = .ok (.iload_n 1, 1) := by decide +kernel
theorem zd_MO_missing_118 : decode zc_MO_missing 118 = .ok (.goto 4, 3) := by decide +kernel
theorem zd_MO_missing_121 : decode zc_MO_missing 121 = .ok (.iload_n 2, 1) := by decide +kernel
theorem zd_MO_missing_122 : decode zc_MO_missing 122 = .ok (.ireturn, 1) := by decide +kernel
theorem zd_MO_variables_0 : decode zc_MO_variables 0 = .ok (.aload_n 0, 1) := by decide +kernel
theorem zd_MO_variables_1 : decode zc_MO_variables 1 = .ok (.iload_n 1, 1) := by decide +kernel
theorem zd_MO_variables_2 : decode zc_MO_variables 2 = .ok (.iconst 1, 1) := by decide +kernel
theorem zd_MO_variables_3 : decode zc_MO_variables 3 = .ok (.if_icmp .lt 9, 3) := by decide +kernel
theorem zd_MO_variables_6 : decode zc_MO_variables 6 = .ok (.iload_n 1, 1) := by decide +kernel
theorem zd_MO_variables_7 : decode zc_MO_variables 7 = .ok (.bipush 80, 2) := by decide +kernel
theorem zd_MO_variables_9 : decode zc_MO_variables 9 = .ok (.if_icmp .le 7, 3) := by decide +kernel
theorem zd_MO_variables_12 : decode zc_MO_variables 12 = .ok (.iconst 1, 1) := by decide +kernel
theorem zd_MO_variables_13 : decode zc_MO_variables 13 = .ok (.goto 4, 3) := by decide +kernel
theorem zd_MO_variables_16 : decode zc_MO_variables 16 = .ok (.iconst 0, 1) := by decide +kernel
theorem zd_MO_variables_17 : decode zc_MO_variables 17 = .ok (.putfield 57, 3) := by decide +kernel
theorem zd_MO_variables_20 : decode zc_MO_variables 20 = .ok (.aload_n 0, 1) := by decide +kernel
theorem zd_MO_variables_21 : decode zc_MO_variables 21 = .ok (.getfield 57, 3) := by decide +kernel
theorem zd_MO_variables_24 : decode zc_MO_variables 24 = .ok (.ifCond .ne 18, 3) := by decide +kernel
theorem zd_MO_variables_27 : decode zc_MO_variables 27 = .ok (.aload_n 0, 1) := by decide +kernel
theorem zd_MO_variables_28 : decode zc_MO_variables 28 = .ok (.iload_n 1, 1) := by decide +kernel
theorem zd_MO_variables_29 : decode zc_MO_variables 29 = .ok (.putfield 33, 3) := by decide +kernel
theorem zd_MO_variables_32 : decode zc_MO_variables 32 = .ok (.aload_n 0, 1) := by decide +kernel
theorem zd_MO_variables_33 : decode zc_MO_variables 33 = .ok (.iconst 0, 1) := by decide +kernel
theorem zd_MO_variables_34 : decode zc_MO_variables 34 = .ok (.putfield 113, 3) := by decide +kernel
theorem zd_MO_variables_37 : decode zc_MO_variables 37 = .ok (.aload_n 0, 1) := by decide +kernel
theorem zd_MO_variables_38 : decode zc_MO_variables 38 = .ok (.iconst 0, 1) := by decide +kernel
theorem zd_MO_variables_39 : decode zc_MO_variables 39 = .ok (.putfield 116, 3) := by decide +kernel
theorem zd_MO_variables_42 : decode zc_MO_variables 42 = .ok (.return_, 1) := by decide +kernel
theorem zd_MO_clause_0 : decode zc_MO_clause 0 = .ok (.aload_n 0, 1) := by decide +kernel
theorem zd_MO_clause_1 : decode zc_MO_clause 1 = .ok (.aload_n 0, 1) := by decide +kernel
theorem zd_MO_clause_2 : decode zc_MO_clause 2 = .ok (.iload_n 1, 1) := by decide +kernel
theorem zd_MO_clause_3 : decode zc_MO_clause 3 = .ok (.invokevirtual 119, 3) := by decide +kernel
theorem zd_MO_clause_6 : decode zc_MO_clause 6 = .ok (.ifCond .ne 11, 3) := by decide +kernel
theorem zd_MO_clause_9 : decode zc_MO_clause 9 = .ok (.aload_n 0, 1) := by decide +kernel
theorem zd_MO_clause_10 : decode zc_MO_clause 10 = .ok (.iload_n 2, 1) := by decide +kernel
theorem zd_MO_clause_11 : decode zc_MO_clause 11 = .ok (.invokevirtual 119, 3) := by decide +kernel
theorem zd_MO_clause_14 : decode zc_MO_clause 14 = .ok (.ifCond .eq 7, 3) := by decide +kernel
theorem zd_MO_clause_17 : decode zc_MO_clause 17 = .ok (.iconst 1, 1) := by decide +kernel
theorem zd_MO_clause_18 : decode zc_MO_clause 18 = .ok (.goto 4, 3) := by decide +kernel
theorem zd_MO_clause_21 : decode zc_MO_clause 21 = .ok (.iconst 0, 1) := by decide +kernel
theorem zd_MO_clause_22 : decode zc_MO_clause 22 = .ok (.putfield 57, 3) := by decide +kernel
theorem zd_MO_clause_25 : decode zc_MO_clause 25 = .ok (.aload_n 0, 1) := by decide +kernel
theorem zd_MO_clause_26 : decode zc_MO_clause 26 = .ok (.getfield 57, 3) := by decide +kernel
theorem zd_MO_clause_29 : decode zc_MO_clause 29 = .ok (.ifCond .le 5, 3) := by decide +kernel
theorem zd_MO_clause_32 : decode zc_MO_clause 32 = .ok (.iconst 0, 1) := by decide +kernel
theorem zd_MO_clause_33 : decode zc_MO_clause 33 = .ok (.ireturn, 1) := by decide +kernel
theorem zd_MO_clause_34 : decode zc_MO_clause 34 = .ok (.aload_n 0, 1) := by decide +kernel
theorem zd_MO_clause_35 : decode zc_MO_clause 35 = .ok (.getfield 113, 3) := by decide +kernel
theorem zd_MO_clause_38 : decode zc_MO_clause 38 = .ok (.sipush 400, 3) := by decide +kernel
theorem zd_MO_clause_41 : decode zc_MO_clause 41 = .ok (.if_icmp .ne 5, 3) := by decide +kernel
theorem zd_MO_clause_44 : decode zc_MO_clause 44 = .ok (.iconst (-1), 1) := by decide +kernel
theorem zd_MO_clause_45 : decode zc_MO_clause 45 = .ok (.ireturn, 1) := by decide +kernel
theorem zd_MO_clause_46 : decode zc_MO_clause 46 = .ok (.aload_n 0, 1) := by decide +kernel
theorem zd_MO_clause_47 : decode zc_MO_clause 47 = .ok (.getfield 36, 3) := by decide +kernel
theorem zd_MO_clause_50 : decode zc_MO_clause 50 = .ok (.aload_n 0, 1) := by decide +kernel
theorem zd_MO_clause_51 : decode zc_MO_clause 51 = .ok (.getfield 113, 3) := by decide +kernel
theorem zd_MO_clause_54 : decode zc_MO_clause 54 = .ok (.iload_n 1, 1) := by decide +kernel
theorem zd_MO_clause_55 : decode zc_MO_clause 55 = .ok (.iastore, 1) := by decide +kernel
theorem zd_MO_clause_56 : decode zc_MO_clause 56 = .ok (.aload_n 0, 1) := by decide +kernel
theorem zd_MO_clause_57 : decode zc_MO_clause 57 = .ok (.getfield 39, 3) := by decide +kernel
theorem zd_MO_clause_60 : decode zc_MO_clause 60 = .ok (.aload_n 0, 1) := by decide +kernel
theorem zd_MO_clause_61 : decode zc_MO_clause 61 = .ok (.getfield 113, 3) := by decide +kernel
theorem zd_MO_clause_64 : decode zc_MO_clause 64 = .ok (.iload_n 2, 1) := by decide +kernel
theorem zd_MO_clause_65 : decode zc_MO_clause 65 = .ok (.iastore, 1) := by decide +kernel
theorem zd_MO_clause_66 : decode zc_MO_clause 66 = .ok (.aload_n 0, 1) := by decide +kernel
theorem zd_MO_clause_67 : decode zc_MO_clause 67 = .ok (.dup, 1) := by decide +kernel
theorem zd_MO_clause_68 : decode zc_MO_clause 68 = .ok (.getfield 113, 3) := by decide +kernel
theorem zd_MO_clause_71 : decode zc_MO_clause 71 = .ok (.iconst 1, 1) := by decide +kernel
theorem zd_MO_clause_72 : decode zc_MO_clause 72 = .ok (.iadd, 1) := by decide +kernel
theorem zd_MO_clause_73 : decode zc_MO_clause 73 = .ok (.putfield 113, 3) := by decide +kernel
theorem zd_MO_clause_76 : decode zc_MO_clause 76 = .ok (.aload_n 0, 1) := by decide +kernel
theorem zd_MO_clause_77 : decode zc_MO_clause 77 = .ok (.iconst 0, 1) := by decide +kernel
theorem zd_MO_clause_78 : decode zc_MO_clause 78 = .ok (.putfield 116, 3) := by decide +kernel
theorem zd_MO_clause_81 : decode zc_MO_clause 81 = .ok (.aload_n 0, 1) := by decide +kernel
theorem zd_MO_clause_82 : decode zc_MO_clause 82 = .ok (.getfield 113, 3) := by decide +kernel
theorem zd_MO_clause_85 : decode zc_MO_clause 85 = .ok (.ireturn, 1) := by decide +kernel
theorem zd_MO_noLiteral_0 : decode zc_MO_noLiteral 0 = .ok (.iload_n 1, 1) := by decide +kernel
theorem zd_MO_noLiteral_1 : decode zc_MO_noLiteral 1 = .ok (.ifCond .eq 20, 3) := by decide +kernel
theorem zd_MO_noLiteral_4 : decode zc_MO_noLiteral 4 = .ok (.iload_n 1, 1) := by decide +kernel
theorem zd_MO_noLiteral_5 : decode zc_MO_noLiteral 5 = .ok (.aload_n 0, 1) := by decide +kernel
theorem zd_MO_noLiteral_6 : decode zc_MO_noLiteral 6 = .ok (.getfield 33, 3) := by decide +kernel
theorem zd_MO_noLiteral_9 : decode zc_MO_noLiteral 9 = .ok (.ineg, 1) := by decide +kernel
theorem zd_MO_noLiteral_10 : decode zc_MO_noLiteral 10 = .ok (.if_icmp .lt 11, 3) := by decide +kernel
theorem zd_MO_noLiteral_13 : decode zc_MO_noLiteral 13 = .ok (.iload_n 1, 1) := by decide +kernel
theorem zd_MO_noLiteral_14 : decode zc_MO_noLiteral 14 = .ok (.aload_n 0, 1) := by decide +kernel
theorem zd_MO_noLiteral_15 : decode zc_MO_noLiteral 15 = .ok (.getfield 33, 3) := by decide +kernel
theorem zd_MO_noLiteral_18 : decode zc_MO_noLiteral 18 = .ok (.if_icmp .le 7, 3) := by decide +kernel
theorem zd_MO_noLiteral_21 : decode zc_MO_noLiteral 21 = .ok (.iconst 1, 1) := by decide +kernel
theorem zd_MO_noLiteral_22 : decode zc_MO_noLiteral 22 = .ok (.goto 4, 3) := by decide +kernel
theorem zd_MO_noLiteral_25 : decode zc_MO_noLiteral 25 = .ok (.iconst 0, 1) := by decide +kernel
theorem zd_MO_noLiteral_26 : decode zc_MO_noLiteral 26 = .ok (.ireturn, 1) := by decide +kernel
theorem zd_MO_drop_0 : decode zc_MO_drop 0 = .ok (.aload_n 0, 1) := by decide +kernel
theorem zd_MO_drop_1 : decode zc_MO_drop 1 = .ok (.iload_n 1, 1) := by decide +kernel
theorem zd_MO_drop_2 : decode zc_MO_drop 2 = .ok (.ifCond .lt 11, 3) := by decide +kernel
theorem zd_MO_drop_5 : decode zc_MO_drop 5 = .ok (.iload_n 1, 1) := by decide +kernel
theorem zd_MO_drop_6 : decode zc_MO_drop 6 = .ok (.aload_n 0, 1) := by decide +kernel
theorem zd_MO_drop_7 : decode zc_MO_drop 7 = .ok (.getfield 113, 3) := by decide +kernel
theorem zd_MO_drop_10 : decode zc_MO_drop 10 = .ok (.if_icmp .lt 7, 3) := by decide +kernel
theorem zd_MO_drop_13 : decode zc_MO_drop 13 = .ok (.iconst 1, 1) := by decide +kernel
theorem zd_MO_drop_14 : decode zc_MO_drop 14 = .ok (.goto 4, 3) := by decide +kernel
theorem zd_MO_drop_17 : decode zc_MO_drop 17 = .ok (.iconst 0, 1) := by decide +kernel
theorem zd_MO_drop_18 : decode zc_MO_drop 18 = .ok (.putfield 57, 3) := by decide +kernel
theorem zd_MO_drop_21 : decode zc_MO_drop 21 = .ok (.aload_n 0, 1) := by decide +kernel
theorem zd_MO_drop_22 : decode zc_MO_drop 22 = .ok (.getfield 57, 3) := by decide +kernel
theorem zd_MO_drop_25 : decode zc_MO_drop 25 = .ok (.ifCond .le 4, 3) := by decide +kernel
theorem zd_MO_drop_28 : decode zc_MO_drop 28 = .ok (.return_, 1) := by decide +kernel
theorem zd_MO_drop_29 : decode zc_MO_drop 29 = .ok (.aload_n 0, 1) := by decide +kernel
theorem zd_MO_drop_30 : decode zc_MO_drop 30 = .ok (.dup, 1) := by decide +kernel
theorem zd_MO_drop_31 : decode zc_MO_drop 31 = .ok (.getfield 113, 3) := by decide +kernel
theorem zd_MO_drop_34 : decode zc_MO_drop 34 = .ok (.iconst 1, 1) := by decide +kernel
theorem zd_MO_drop_35 : decode zc_MO_drop 35 = .ok (.isub, 1) := by decide +kernel
theorem zd_MO_drop_36 : decode zc_MO_drop 36 = .ok (.putfield 113, 3) := by decide +kernel
theorem zd_MO_drop_39 : decode zc_MO_drop 39 = .ok (.iload_n 1, 1) := by decide +kernel
theorem zd_MO_drop_40 : decode zc_MO_drop 40 = .ok (.istore_n 2, 1) := by decide +kernel
theorem zd_MO_drop_41 : decode zc_MO_drop 41 = .ok (.iload_n 2, 1) := by decide +kernel
theorem zd_MO_drop_42 : decode zc_MO_drop 42 = .ok (.aload_n 0, 1) := by decide +kernel
theorem zd_MO_drop_43 : decode zc_MO_drop 43 = .ok (.getfield 113, 3) := by decide +kernel
theorem zd_MO_drop_46 : decode zc_MO_drop 46 = .ok (.if_icmp .ge 37, 3) := by decide +kernel
theorem zd_MO_drop_49 : decode zc_MO_drop 49 = .ok (.aload_n 0, 1) := by decide +kernel
theorem zd_MO_drop_50 : decode zc_MO_drop 50 = .ok (.getfield 36, 3) := by decide +kernel
theorem zd_MO_drop_53 : decode zc_MO_drop 53 = .ok (.iload_n 2, 1) := by decide +kernel
theorem zd_MO_drop_54 : decode zc_MO_drop 54 = .ok (.aload_n 0, 1) := by decide +kernel
theorem zd_MO_drop_55 : decode zc_MO_drop 55 = .ok (.getfield 36, 3) := by decide +kernel
theorem zd_MO_drop_58 : decode zc_MO_drop 58 = .ok (.iload_n 2, 1) := by decide +kernel
theorem zd_MO_drop_59 : decode zc_MO_drop 59 = .ok (.iconst 1, 1) := by decide +kernel
theorem zd_MO_drop_60 : decode zc_MO_drop 60 = .ok (.iadd, 1) := by decide +kernel
theorem zd_MO_drop_61 : decode zc_MO_drop 61 = .ok (.iaload, 1) := by decide +kernel
theorem zd_MO_drop_62 : decode zc_MO_drop 62 = .ok (.iastore, 1) := by decide +kernel
theorem zd_MO_drop_63 : decode zc_MO_drop 63 = .ok (.aload_n 0, 1) := by decide +kernel
theorem zd_MO_drop_64 : decode zc_MO_drop 64 = .ok (.getfield 39, 3) := by decide +kernel
theorem zd_MO_drop_67 : decode zc_MO_drop 67 = .ok (.iload_n 2, 1) := by decide +kernel
theorem zd_MO_drop_68 : decode zc_MO_drop 68 = .ok (.aload_n 0, 1) := by decide +kernel
theorem zd_MO_drop_69 : decode zc_MO_drop 69 = .ok (.getfield 39, 3) := by decide +kernel
theorem zd_MO_drop_72 : decode zc_MO_drop 72 = .ok (.iload_n 2, 1) := by decide +kernel
theorem zd_MO_drop_73 : decode zc_MO_drop 73 = .ok (.iconst 1, 1) := by decide +kernel
theorem zd_MO_drop_74 : decode zc_MO_drop 74 = .ok (.iadd, 1) := by decide +kernel
theorem zd_MO_drop_75 : decode zc_MO_drop 75 = .ok (.iaload, 1) := by decide +kernel
theorem zd_MO_drop_76 : decode zc_MO_drop 76 = .ok (.iastore, 1) := by decide +kernel
theorem zd_MO_drop_77 : decode zc_MO_drop 77 = .ok (.iinc 2 1, 3) := by decide +kernel
theorem zd_MO_drop_80 : decode zc_MO_drop 80 = .ok (.goto (-39), 3) := by decide +kernel
theorem zd_MO_drop_83 : decode zc_MO_drop 83 = .ok (.aload_n 0, 1) := by decide +kernel
theorem zd_MO_drop_84 : decode zc_MO_drop 84 = .ok (.iconst 0, 1) := by decide +kernel
theorem zd_MO_drop_85 : decode zc_MO_drop 85 = .ok (.putfield 116, 3) := by decide +kernel
theorem zd_MO_drop_88 : decode zc_MO_drop 88 = .ok (.return_, 1) := by decide +kernel
theorem zd_MO_can_0 : decode zc_MO_can 0 = .ok (.aload_n 0, 1) := by decide +kernel
theorem zd_MO_can_1 : decode zc_MO_can 1 = .ok (.iconst 0, 1) := by decide +kernel
theorem zd_MO_can_2 : decode zc_MO_can 2 = .ok (.putfield 57, 3) := by decide +kernel
theorem zd_MO_can_5 : decode zc_MO_can 5 = .ok (.aload_n 0, 1) := by decide +kernel
theorem zd_MO_can_6 : decode zc_MO_can 6 = .ok (.invokevirtual 143, 3) := by decide +kernel
theorem zd_MO_can_9 : decode zc_MO_can 9 = .ok (.aload_n 0, 1) := by decide +kernel
theorem zd_MO_can_10 : decode zc_MO_can 10 = .ok (.getfield 140, 3) := by decide +kernel
theorem zd_MO_can_13 : decode zc_MO_can 13 = .ok (.ireturn, 1) := by decide +kernel
theorem zd_MO_knowClauses_0 : decode zc_MO_knowClauses 0 = .ok (.aload_n 0, 1) := by decide +kernel
theorem zd_MO_knowClauses_1 : decode zc_MO_knowClauses 1 = .ok (.getfield 116, 3) := by decide +kernel
theorem zd_MO_knowClauses_4 : decode zc_MO_knowClauses 4 = .ok (.ifCond .eq 4, 3) := by decide +kernel
theorem zd_MO_knowClauses_7 : decode zc_MO_knowClauses 7 = .ok (.return_, 1) := by decide +kernel
theorem zd_MO_knowClauses_8 : decode zc_MO_knowClauses 8 = .ok (.aload_n 0, 1) := by decide +kernel
theorem zd_MO_knowClauses_9 : decode zc_MO_knowClauses 9 = .ok (.iconst 1, 1) := by decide +kernel
theorem zd_MO_knowClauses_10 : decode zc_MO_knowClauses 10 = .ok (.putfield 116, 3) := by decide +kernel
theorem zd_MO_knowClauses_13 : decode zc_MO_knowClauses 13 = .ok (.iconst 0, 1) := by decide +kernel
theorem zd_MO_knowClauses_14 : decode zc_MO_knowClauses 14 = .ok (.istore_n 1, 1) := by decide +kernel
theorem zd_MO_knowClauses_15 : decode zc_MO_knowClauses 15 = .ok (.iload_n 1, 1) := by decide +kernel
theorem zd_MO_knowClauses_16 : decode zc_MO_knowClauses 16 = .ok (.sipush 25600, 3) := by decide +kernel
theorem zd_MO_knowClauses_19 : decode zc_MO_knowClauses 19 = .ok (.if_icmp .ge 35, 3) := by decide +kernel
theorem zd_MO_knowClauses_22 : decode zc_MO_knowClauses 22 = .ok (.aload_n 0, 1) := by decide +kernel
theorem zd_MO_knowClauses_23 : decode zc_MO_knowClauses 23 = .ok (.getfield 42, 3) := by decide +kernel
theorem zd_MO_knowClauses_26 : decode zc_MO_knowClauses 26 = .ok (.iload_n 1, 1) := by decide +kernel
theorem zd_MO_knowClauses_27 : decode zc_MO_knowClauses 27 = .ok (.iconst 0, 1) := by decide +kernel
theorem zd_MO_knowClauses_28 : decode zc_MO_knowClauses 28 = .ok (.bastore, 1) := by decide +kernel
theorem zd_MO_knowClauses_29 : decode zc_MO_knowClauses 29 = .ok (.aload_n 0, 1) := by decide +kernel
theorem zd_MO_knowClauses_30 : decode zc_MO_knowClauses 30 = .ok (.getfield 45, 3) := by decide +kernel
theorem zd_MO_knowClauses_33 : decode zc_MO_knowClauses 33 = .ok (.iload_n 1, 1) := by decide +kernel
theorem zd_MO_knowClauses_34 : decode zc_MO_knowClauses 34 = .ok (.iload_n 1, 1) := by decide +kernel
theorem zd_MO_knowClauses_35 : decode zc_MO_knowClauses 35 = .ok (.sipush 161, 3) := by decide +kernel
theorem zd_MO_knowClauses_38 : decode zc_MO_knowClauses 38 = .ok (.irem, 1) := by decide +kernel
theorem zd_MO_knowClauses_39 : decode zc_MO_knowClauses 39 = .ok (.ifCond .ne 7, 3) := by decide +kernel
theorem zd_MO_knowClauses_42 : decode zc_MO_knowClauses 42 = .ok (.iconst 1, 1) := by decide +kernel
theorem zd_MO_knowClauses_43 : decode zc_MO_knowClauses 43 = .ok (.goto 4, 3) := by decide +kernel
theorem zd_MO_knowClauses_46 : decode zc_MO_knowClauses 46 = .ok (.iconst 0, 1) := by decide +kernel
theorem zd_MO_knowClauses_47 : decode zc_MO_knowClauses 47 = .ok (.bastore, 1) := by decide +kernel
theorem zd_MO_knowClauses_48 : decode zc_MO_knowClauses 48 = .ok (.iinc 1 1, 3) := by decide +kernel
theorem zd_MO_knowClauses_51 : decode zc_MO_knowClauses 51 = .ok (.goto (-36), 3) := by decide +kernel
theorem zd_MO_knowClauses_54 : decode zc_MO_knowClauses 54 = .ok (.aload_n 0, 1) := by decide +kernel
theorem zd_MO_knowClauses_55 : decode zc_MO_knowClauses 55 = .ok (.iconst (-1), 1) := by decide +kernel
theorem zd_MO_knowClauses_56 : decode zc_MO_knowClauses 56 = .ok (.putfield 122, 3) := by decide +kernel
theorem zd_MO_knowClauses_59 : decode zc_MO_knowClauses 59 = .ok (.iconst 0, 1) := by decide +kernel
theorem zd_MO_knowClauses_60 : decode zc_MO_knowClauses 60 = .ok (.istore_n 1, 1) := by decide +kernel
theorem zd_MO_knowClauses_61 : decode zc_MO_knowClauses 61 = .ok (.iload_n 1, 1) := by decide +kernel
theorem zd_MO_knowClauses_62 : decode zc_MO_knowClauses 62 = .ok (.aload_n 0, 1) := by decide +kernel
theorem zd_MO_knowClauses_63 : decode zc_MO_knowClauses 63 = .ok (.getfield 113, 3) := by decide +kernel
theorem zd_MO_knowClauses_66 : decode zc_MO_knowClauses 66 = .ok (.if_icmp .ge 75, 3) := by decide +kernel
theorem zd_MO_knowClauses_69 : decode zc_MO_knowClauses 69 = .ok (.aload_n 0, 1) := by decide +kernel
theorem zd_MO_knowClauses_70 : decode zc_MO_knowClauses 70 = .ok (.getfield 36, 3) := by decide +kernel
theorem zd_MO_knowClauses_73 : decode zc_MO_knowClauses 73 = .ok (.iload_n 1, 1) := by decide +kernel
theorem zd_MO_knowClauses_74 : decode zc_MO_knowClauses 74 = .ok (.iaload, 1) := by decide +kernel
theorem zd_MO_knowClauses_75 : decode zc_MO_knowClauses 75 = .ok (.invokestatic 125, 3) := by decide +kernel
theorem zd_MO_knowClauses_78 : decode zc_MO_knowClauses 78 = .ok (.istore_n 2, 1) := by decide +kernel
theorem zd_MO_knowClauses_79 : decode zc_MO_knowClauses 79 = .ok (.aload_n 0, 1) := by decide +kernel
theorem zd_MO_knowClauses_80 : decode zc_MO_knowClauses 80 = .ok (.getfield 39, 3) := by decide +kernel
theorem zd_MO_knowClauses_83 : decode zc_MO_knowClauses 83 = .ok (.iload_n 1, 1) := by decide +kernel
theorem zd_MO_knowClauses_84 : decode zc_MO_knowClauses 84 = .ok (.iaload, 1) := by decide +kernel
theorem zd_MO_knowClauses_85 : decode zc_MO_knowClauses 85 = .ok (.invokestatic 125, 3) := by decide +kernel
theorem zd_MO_knowClauses_88 : decode zc_MO_knowClauses 88 = .ok (.istore_n 3, 1) := by decide +kernel
theorem zd_MO_knowClauses_89 : decode zc_MO_knowClauses 89 = .ok (.aload_n 0, 1) := by decide +kernel
theorem zd_MO_knowClauses_90 : decode zc_MO_knowClauses 90 = .ok (.iload_n 2, 1) := by decide +kernel
theorem zd_MO_knowClauses_91 : decode zc_MO_knowClauses 91 = .ok (.invokestatic 129, 3) := by decide +kernel
theorem zd_MO_knowClauses_94 : decode zc_MO_knowClauses 94 = .ok (.iload_n 3, 1) := by decide +kernel
theorem zd_MO_knowClauses_95 : decode zc_MO_knowClauses 95 = .ok (.invokevirtual 132, 3) := by decide +kernel
theorem zd_MO_knowClauses_98 : decode zc_MO_knowClauses 98 = .ok (.aload_n 0, 1) := by decide +kernel
theorem zd_MO_knowClauses_99 : decode zc_MO_knowClauses 99 = .ok (.iload_n 3, 1) := by decide +kernel
theorem zd_MO_knowClauses_100 : decode zc_MO_knowClauses 100 = .ok (.invokestatic 129, 3) := by decide +kernel
theorem zd_MO_knowClauses_103 : decode zc_MO_knowClauses 103 = .ok (.iload_n 2, 1) := by decide +kernel
theorem zd_MO_knowClauses_104 : decode zc_MO_knowClauses 104 = .ok (.invokevirtual 132, 3) := by decide +kernel
theorem zd_MO_knowClauses_107 : decode zc_MO_knowClauses 107 = .ok (.aload_n 0, 1) := by decide +kernel
theorem zd_MO_knowClauses_108 : decode zc_MO_knowClauses 108 = .ok (.aload_n 0, 1) := by decide +kernel
theorem zd_MO_knowClauses_109 : decode zc_MO_knowClauses 109 = .ok (.getfield 122, 3) := by decide +kernel
theorem zd_MO_knowClauses_112 : decode zc_MO_knowClauses 112 = .ok (.ifCond .ge 16, 3) := by decide +kernel
theorem zd_MO_knowClauses_115 : decode zc_MO_knowClauses 115 = .ok (.aload_n 0, 1) := by decide +kernel
theorem zd_MO_knowClauses_116 : decode zc_MO_knowClauses 116 = .ok (.invokevirtual 136, 3) := by decide +kernel
theorem zd_MO_knowClauses_119 : decode zc_MO_knowClauses 119 = .ok (.ifCond .eq 9, 3) := by decide +kernel
theorem zd_MO_knowClauses_122 : decode zc_MO_knowClauses 122 = .ok (.iload_n 1, 1) := by decide +kernel
theorem zd_MO_knowClauses_123 : decode zc_MO_knowClauses 123 = .ok (.iconst 1, 1) := by decide +kernel
theorem zd_MO_knowClauses_124 : decode zc_MO_knowClauses 124 = .ok (.iadd, 1) := by decide +kernel
theorem zd_MO_knowClauses_125 : decode zc_MO_knowClauses 125 = .ok (.goto 7, 3) := by decide +kernel
theorem zd_MO_knowClauses_128 : decode zc_MO_knowClauses 128 = .ok (.aload_n 0, 1) := by decide +kernel
theorem zd_MO_knowClauses_129 : decode zc_MO_knowClauses 129 = .ok (.getfield 122, 3) := by decide +kernel
theorem zd_MO_knowClauses_132 : decode zc_MO_knowClauses 132 = .ok (.putfield 122, 3) := by decide +kernel
theorem zd_MO_knowClauses_135 : decode zc_MO_knowClauses 135 = .ok (.iinc 1 1, 3) := by decide +kernel
theorem zd_MO_knowClauses_138 : decode zc_MO_knowClauses 138 = .ok (.goto (-77), 3) := by decide +kernel
theorem zd_MO_knowClauses_141 : decode zc_MO_knowClauses 141 = .ok (.aload_n 0, 1) := by decide +kernel
theorem zd_MO_knowClauses_142 : decode zc_MO_knowClauses 142 = .ok (.aload_n 0, 1) := by decide +kernel
theorem zd_MO_knowClauses_143 : decode zc_MO_knowClauses 143 = .ok (.getfield 122, 3) := by decide +kernel
theorem zd_MO_knowClauses_146 : decode zc_MO_knowClauses 146 = .ok (.ifCond .ge 7, 3) := by decide +kernel
theorem zd_MO_knowClauses_149 : decode zc_MO_knowClauses 149 = .ok (.iconst 1, 1) := by decide +kernel
theorem zd_MO_knowClauses_150 : decode zc_MO_knowClauses 150 = .ok (.goto 4, 3) := by decide +kernel
theorem zd_MO_knowClauses_153 : decode zc_MO_knowClauses 153 = .ok (.iconst 0, 1) := by decide +kernel
theorem zd_MO_knowClauses_154 : decode zc_MO_knowClauses 154 = .ok (.putfield 140, 3) := by decide +kernel
theorem zd_MO_knowClauses_157 : decode zc_MO_knowClauses 157 = .ok (.iconst 0, 1) := by decide +kernel
theorem zd_MO_knowClauses_158 : decode zc_MO_knowClauses 158 = .ok (.istore_n 1, 1) := by decide +kernel
theorem zd_MO_knowClauses_159 : decode zc_MO_knowClauses 159 = .ok (.iload_n 1, 1) := by decide +kernel
theorem zd_MO_knowClauses_160 : decode zc_MO_knowClauses 160 = .ok (.bipush 80, 2) := by decide +kernel
theorem zd_MO_knowClauses_162 : decode zc_MO_knowClauses 162 = .ok (.if_icmp .ge 16, 3) := by decide +kernel
theorem zd_MO_knowClauses_165 : decode zc_MO_knowClauses 165 = .ok (.aload_n 0, 1) := by decide +kernel
theorem zd_MO_knowClauses_166 : decode zc_MO_knowClauses 166 = .ok (.getfield 48, 3) := by decide +kernel
theorem zd_MO_knowClauses_169 : decode zc_MO_knowClauses 169 = .ok (.iload_n 1, 1) := by decide +kernel
theorem zd_MO_knowClauses_170 : decode zc_MO_knowClauses 170 = .ok (.iconst (-1), 1) := by decide +kernel
theorem zd_MO_knowClauses_171 : decode zc_MO_knowClauses 171 = .ok (.iastore, 1) := by decide +kernel
theorem zd_MO_knowClauses_172 : decode zc_MO_knowClauses 172 = .ok (.iinc 1 1, 3) := by decide +kernel
theorem zd_MO_knowClauses_175 : decode zc_MO_knowClauses 175 = .ok (.goto (-16), 3) := by decide +kernel
theorem zd_MO_knowClauses_178 : decode zc_MO_knowClauses 178 = .ok (.iconst 0, 1) := by decide +kernel
theorem zd_MO_knowClauses_179 : decode zc_MO_knowClauses 179 = .ok (.istore_n 1, 1) := by decide +kernel
theorem zd_MO_knowClauses_180 : decode zc_MO_knowClauses 180 = .ok (.iload_n 1, 1) := by decide +kernel
theorem zd_MO_knowClauses_181 : decode zc_MO_knowClauses 181 = .ok (.aload_n 0, 1) := by decide +kernel
theorem zd_MO_knowClauses_182 : decode zc_MO_knowClauses 182 = .ok (.getfield 33, 3) := by decide +kernel
theorem zd_MO_knowClauses_185 : decode zc_MO_knowClauses 185 = .ok (.if_icmp .ge 112, 3) := by decide +kernel
theorem zd_MO_knowClauses_188 : decode zc_MO_knowClauses 188 = .ok (.aload_n 0, 1) := by decide +kernel
theorem zd_MO_knowClauses_189 : decode zc_MO_knowClauses 189 = .ok (.getfield 140, 3) := by decide +kernel
theorem zd_MO_knowClauses_192 : decode zc_MO_knowClauses 192 = .ok (.ifCond .eq 105, 3) := by decide +kernel
theorem zd_MO_knowClauses_195 : decode zc_MO_knowClauses 195 = .ok (.aload_n 0, 1) := by decide +kernel
theorem zd_MO_knowClauses_196 : decode zc_MO_knowClauses 196 = .ok (.getfield 48, 3) := by decide +kernel
theorem zd_MO_knowClauses_199 : decode zc_MO_knowClauses 199 = .ok (.iload_n 1, 1) := by decide +kernel
theorem zd_MO_knowClauses_200 : decode zc_MO_knowClauses 200 = .ok (.iaload, 1) := by decide +kernel
theorem zd_MO_knowClauses_201 : decode zc_MO_knowClauses 201 = .ok (.iconst (-1), 1) := by decide +kernel
theorem zd_MO_knowClauses_202 : decode zc_MO_knowClauses 202 = .ok (.if_icmp .ne 89, 3) := by decide +kernel
theorem zd_MO_knowClauses_205 : decode zc_MO_knowClauses 205 = .ok (.aload_n 0, 1) := by decide +kernel
theorem zd_MO_knowClauses_206 : decode zc_MO_knowClauses 206 = .ok (.getfield 45, 3) := by decide +kernel
theorem zd_MO_knowClauses_209 : decode zc_MO_knowClauses 209 = .ok (.iconst 2, 1) := by decide +kernel
theorem zd_MO_knowClauses_210 : decode zc_MO_knowClauses 210 = .ok (.iload_n 1, 1) := by decide +kernel
theorem zd_MO_knowClauses_211 : decode zc_MO_knowClauses 211 = .ok (.imul, 1) := by decide +kernel
theorem zd_MO_knowClauses_212 : decode zc_MO_knowClauses 212 = .ok (.iconst 1, 1) := by decide +kernel
theorem zd_MO_knowClauses_213 : decode zc_MO_knowClauses 213 = .ok (.iadd, 1) := by decide +kernel
theorem zd_MO_knowClauses_214 : decode zc_MO_knowClauses 214 = .ok (.iconst 2, 1) := by decide +kernel
theorem zd_MO_knowClauses_215 : decode zc_MO_knowClauses 215 = .ok (.iload_n 1, 1) := by decide +kernel
theorem zd_MO_knowClauses_216 : decode zc_MO_knowClauses 216 = .ok (.imul, 1) := by decide +kernel
theorem zd_MO_knowClauses_217 : decode zc_MO_knowClauses 217 = .ok (.invokestatic 71, 3) := by decide +kernel
theorem zd_MO_knowClauses_220 : decode zc_MO_knowClauses 220 = .ok (.baload, 1) := by decide +kernel
theorem zd_MO_knowClauses_221 : decode zc_MO_knowClauses 221 = .ok (.ifCond .eq 9, 3) := by decide +kernel
theorem zd_MO_knowClauses_224 : decode zc_MO_knowClauses 224 = .ok (.iconst 2, 1) := by decide +kernel
theorem zd_MO_knowClauses_225 : decode zc_MO_knowClauses 225 = .ok (.iload_n 1, 1) := by decide +kernel
theorem zd_MO_knowClauses_226 : decode zc_MO_knowClauses 226 = .ok (.imul, 1) := by decide +kernel
theorem zd_MO_knowClauses_227 : decode zc_MO_knowClauses 227 = .ok (.goto 8, 3) := by decide +kernel
theorem zd_MO_knowClauses_230 : decode zc_MO_knowClauses 230 = .ok (.iconst 2, 1) := by decide +kernel
theorem zd_MO_knowClauses_231 : decode zc_MO_knowClauses 231 = .ok (.iload_n 1, 1) := by decide +kernel
theorem zd_MO_knowClauses_232 : decode zc_MO_knowClauses 232 = .ok (.imul, 1) := by decide +kernel
theorem zd_MO_knowClauses_233 : decode zc_MO_knowClauses 233 = .ok (.iconst 1, 1) := by decide +kernel
theorem zd_MO_knowClauses_234 : decode zc_MO_knowClauses 234 = .ok (.iadd, 1) := by decide +kernel
theorem zd_MO_knowClauses_235 : decode zc_MO_knowClauses 235 = .ok (.istore_n 2, 1) := by decide +kernel
theorem zd_MO_knowClauses_236 : decode zc_MO_knowClauses 236 = .ok (.iconst 0, 1) := by decide +kernel
theorem zd_MO_knowClauses_237 : decode zc_MO_knowClauses 237 = .ok (.istore_n 3, 1) := by decide +kernel
theorem zd_MO_knowClauses_238 : decode zc_MO_knowClauses 238 = .ok (.iload_n 3, 1) := by decide +kernel
theorem zd_MO_knowClauses_239 : decode zc_MO_knowClauses 239 = .ok (.iconst 2, 1) := by decide +kernel
theorem zd_MO_knowClauses_240 : decode zc_MO_knowClauses 240 = .ok (.aload_n 0, 1) := by decide +kernel
theorem zd_MO_knowClauses_241 : decode zc_MO_knowClauses 241 = .ok (.getfield 33, 3) := by decide +kernel
theorem zd_MO_knowClauses_244 : decode zc_MO_knowClauses 244 = .ok (.imul, 1) := by decide +kernel
theorem zd_MO_knowClauses_245 : decode zc_MO_knowClauses 245 = .ok (.if_icmp .ge 46, 3) := by decide +kernel
theorem zd_MO_knowClauses_248 : decode zc_MO_knowClauses 248 = .ok (.aload_n 0, 1) := by decide +kernel
theorem zd_MO_knowClauses_249 : decode zc_MO_knowClauses 249 = .ok (.getfield 48, 3) := by decide +kernel
theorem zd_MO_knowClauses_252 : decode zc_MO_knowClauses 252 = .ok (.iload_n 3, 1) := by decide +kernel
theorem zd_MO_knowClauses_253 : decode zc_MO_knowClauses 253 = .ok (.iconst 2, 1) := by decide +kernel
theorem zd_MO_knowClauses_254 : decode zc_MO_knowClauses 254 = .ok (.idiv, 1) := by decide +kernel
theorem zd_MO_knowClauses_255 : decode zc_MO_knowClauses 255 = .ok (.aload_n 0, 1) := by decide +kernel
theorem zd_MO_knowClauses_256 : decode zc_MO_knowClauses 256 = .ok (.getfield 45, 3) := by decide +kernel
theorem zd_MO_knowClauses_259 : decode zc_MO_knowClauses 259 = .ok (.iload_n 2, 1) := by decide +kernel
theorem zd_MO_knowClauses_260 : decode zc_MO_knowClauses 260 = .ok (.iload_n 3, 1) := by decide +kernel
theorem zd_MO_knowClauses_261 : decode zc_MO_knowClauses 261 = .ok (.invokestatic 71, 3) := by decide +kernel
theorem zd_MO_knowClauses_264 : decode zc_MO_knowClauses 264 = .ok (.baload, 1) := by decide +kernel
theorem zd_MO_knowClauses_265 : decode zc_MO_knowClauses 265 = .ok (.ifCond .eq 11, 3) := by decide +kernel
theorem zd_MO_knowClauses_268 : decode zc_MO_knowClauses 268 = .ok (.iconst 1, 1) := by decide +kernel
theorem zd_MO_knowClauses_269 : decode zc_MO_knowClauses 269 = .ok (.iload_n 3, 1) := by decide +kernel
theorem zd_MO_knowClauses_270 : decode zc_MO_knowClauses 270 = .ok (.iconst 2, 1) := by decide +kernel
theorem zd_MO_knowClauses_271 : decode zc_MO_knowClauses 271 = .ok (.irem, 1) := by decide +kernel
theorem zd_MO_knowClauses_272 : decode zc_MO_knowClauses 272 = .ok (.isub, 1) := by decide +kernel
theorem zd_MO_knowClauses_273 : decode zc_MO_knowClauses 273 = .ok (.goto 11, 3) := by decide +kernel
theorem zd_MO_knowClauses_276 : decode zc_MO_knowClauses 276 = .ok (.aload_n 0, 1) := by decide +kernel
theorem zd_MO_knowClauses_277 : decode zc_MO_knowClauses 277 = .ok (.getfield 48, 3) := by decide +kernel
theorem zd_MO_knowClauses_280 : decode zc_MO_knowClauses 280 = .ok (.iload_n 3, 1) := by decide +kernel
theorem zd_MO_knowClauses_281 : decode zc_MO_knowClauses 281 = .ok (.iconst 2, 1) := by decide +kernel
theorem zd_MO_knowClauses_282 : decode zc_MO_knowClauses 282 = .ok (.idiv, 1) := by decide +kernel
theorem zd_MO_knowClauses_283 : decode zc_MO_knowClauses 283 = .ok (.iaload, 1) := by decide +kernel
theorem zd_MO_knowClauses_284 : decode zc_MO_knowClauses 284 = .ok (.iastore, 1) := by decide +kernel
theorem zd_MO_knowClauses_285 : decode zc_MO_knowClauses 285 = .ok (.iinc 3 1, 3) := by decide +kernel
theorem zd_MO_knowClauses_288 : decode zc_MO_knowClauses 288 = .ok (.goto (-50), 3) := by decide +kernel
theorem zd_MO_knowClauses_291 : decode zc_MO_knowClauses 291 = .ok (.iinc 1 1, 3) := by decide +kernel
theorem zd_MO_knowClauses_294 : decode zc_MO_knowClauses 294 = .ok (.goto (-114), 3) := by decide +kernel
theorem zd_MO_knowClauses_297 : decode zc_MO_knowClauses 297 = .ok (.return_, 1) := by decide +kernel
theorem zd_MO_literal_0 : decode zc_MO_literal 0 = .ok (.iload_n 0, 1) := by decide +kernel
theorem zd_MO_literal_1 : decode zc_MO_literal 1 = .ok (.ifCond .le 11, 3) := by decide +kernel
theorem zd_MO_literal_4 : decode zc_MO_literal 4 = .ok (.iconst 2, 1) := by decide +kernel
theorem zd_MO_literal_5 : decode zc_MO_literal 5 = .ok (.iload_n 0, 1) := by decide +kernel
theorem zd_MO_literal_6 : decode zc_MO_literal 6 = .ok (.imul, 1) := by decide +kernel
theorem zd_MO_literal_7 : decode zc_MO_literal 7 = .ok (.iconst 2, 1) := by decide +kernel
theorem zd_MO_literal_8 : decode zc_MO_literal 8 = .ok (.isub, 1) := by decide +kernel
theorem zd_MO_literal_9 : decode zc_MO_literal 9 = .ok (.goto 9, 3) := by decide +kernel
theorem zd_MO_literal_12 : decode zc_MO_literal 12 = .ok (.bipush (-2), 2) := by decide +kernel
theorem zd_MO_literal_14 : decode zc_MO_literal 14 = .ok (.iload_n 0, 1) := by decide +kernel
theorem zd_MO_literal_15 : decode zc_MO_literal 15 = .ok (.imul, 1) := by decide +kernel
theorem zd_MO_literal_16 : decode zc_MO_literal 16 = .ok (.iconst 1, 1) := by decide +kernel
theorem zd_MO_literal_17 : decode zc_MO_literal 17 = .ok (.isub, 1) := by decide +kernel
theorem zd_MO_literal_18 : decode zc_MO_literal 18 = .ok (.ireturn, 1) := by decide +kernel
theorem zd_MO_opposite_0 : decode zc_MO_opposite 0 = .ok (.iload_n 0, 1) := by decide +kernel
theorem zd_MO_opposite_1 : decode zc_MO_opposite 1 = .ok (.iconst 2, 1) := by decide +kernel
theorem zd_MO_opposite_2 : decode zc_MO_opposite 2 = .ok (.irem, 1) := by decide +kernel
theorem zd_MO_opposite_3 : decode zc_MO_opposite 3 = .ok (.ifCond .ne 9, 3) := by decide +kernel
theorem zd_MO_opposite_6 : decode zc_MO_opposite 6 = .ok (.iload_n 0, 1) := by decide +kernel
theorem zd_MO_opposite_7 : decode zc_MO_opposite 7 = .ok (.iconst 1, 1) := by decide +kernel
theorem zd_MO_opposite_8 : decode zc_MO_opposite 8 = .ok (.iadd, 1) := by decide +kernel
theorem zd_MO_opposite_9 : decode zc_MO_opposite 9 = .ok (.goto 6, 3) := by decide +kernel
theorem zd_MO_opposite_12 : decode zc_MO_opposite 12 = .ok (.iload_n 0, 1) := by decide +kernel
theorem zd_MO_opposite_13 : decode zc_MO_opposite 13 = .ok (.iconst 1, 1) := by decide +kernel
theorem zd_MO_opposite_14 : decode zc_MO_opposite 14 = .ok (.isub, 1) := by decide +kernel
theorem zd_MO_opposite_15 : decode zc_MO_opposite 15 = .ok (.ireturn, 1) := by decide +kernel
theorem zd_MO_addStep_0 : decode zc_MO_addStep 0 = .ok (.aload_n 0, 1) := by decide +kernel
theorem zd_MO_addStep_1 : decode zc_MO_addStep 1 = .ok (.getfield 42, 3) := by decide +kernel
theorem zd_MO_addStep_4 : decode zc_MO_addStep 4 = .ok (.iload_n 1, 1) := by decide +kernel
theorem zd_MO_addStep_5 : decode zc_MO_addStep 5 = .ok (.iload_n 2, 1) := by decide +kernel
theorem zd_MO_addStep_6 : decode zc_MO_addStep 6 = .ok (.invokestatic 71, 3) := by decide +kernel
theorem zd_MO_addStep_9 : decode zc_MO_addStep 9 = .ok (.iconst 1, 1) := by decide +kernel
theorem zd_MO_addStep_10 : decode zc_MO_addStep 10 = .ok (.bastore, 1) := by decide +kernel
theorem zd_MO_addStep_11 : decode zc_MO_addStep 11 = .ok (.aload_n 0, 1) := by decide +kernel
theorem zd_MO_addStep_12 : decode zc_MO_addStep 12 = .ok (.getfield 45, 3) := by decide +kernel
theorem zd_MO_addStep_15 : decode zc_MO_addStep 15 = .ok (.iload_n 1, 1) := by decide +kernel
theorem zd_MO_addStep_16 : decode zc_MO_addStep 16 = .ok (.iload_n 2, 1) := by decide +kernel
theorem zd_MO_addStep_17 : decode zc_MO_addStep 17 = .ok (.invokestatic 71, 3) := by decide +kernel
theorem zd_MO_addStep_20 : decode zc_MO_addStep 20 = .ok (.baload, 1) := by decide +kernel
theorem zd_MO_addStep_21 : decode zc_MO_addStep 21 = .ok (.ifCond .eq 4, 3) := by decide +kernel
theorem zd_MO_addStep_24 : decode zc_MO_addStep 24 = .ok (.return_, 1) := by decide +kernel
theorem zd_MO_addStep_25 : decode zc_MO_addStep 25 = .ok (.iconst 0, 1) := by decide +kernel
theorem zd_MO_addStep_26 : decode zc_MO_addStep 26 = .ok (.istore_n 3, 1) := by decide +kernel
theorem zd_MO_addStep_27 : decode zc_MO_addStep 27 = .ok (.iload_n 3, 1) := by decide +kernel
theorem zd_MO_addStep_28 : decode zc_MO_addStep 28 = .ok (.iconst 2, 1) := by decide +kernel
theorem zd_MO_addStep_29 : decode zc_MO_addStep 29 = .ok (.aload_n 0, 1) := by decide +kernel
theorem zd_MO_addStep_30 : decode zc_MO_addStep 30 = .ok (.getfield 33, 3) := by decide +kernel
theorem zd_MO_addStep_33 : decode zc_MO_addStep 33 = .ok (.imul, 1) := by decide +kernel
theorem zd_MO_addStep_34 : decode zc_MO_addStep 34 = .ok (.if_icmp .ge 86, 3) := by decide +kernel
theorem zd_MO_addStep_37 : decode zc_MO_addStep 37 = .ok (.aload_n 0, 1) := by decide +kernel
theorem zd_MO_addStep_38 : decode zc_MO_addStep 38 = .ok (.getfield 45, 3) := by decide +kernel
theorem zd_MO_addStep_41 : decode zc_MO_addStep 41 = .ok (.iload_n 3, 1) := by decide +kernel
theorem zd_MO_addStep_42 : decode zc_MO_addStep 42 = .ok (.iload_n 1, 1) := by decide +kernel
theorem zd_MO_addStep_43 : decode zc_MO_addStep 43 = .ok (.invokestatic 71, 3) := by decide +kernel
theorem zd_MO_addStep_46 : decode zc_MO_addStep 46 = .ok (.baload, 1) := by decide +kernel
theorem zd_MO_addStep_47 : decode zc_MO_addStep 47 = .ok (.ifCond .eq 67, 3) := by decide +kernel
theorem zd_MO_addStep_50 : decode zc_MO_addStep 50 = .ok (.iconst 0, 1) := by decide +kernel
theorem zd_MO_addStep_51 : decode zc_MO_addStep 51 = .ok (.istore 4, 2) := by decide +kernel
theorem zd_MO_addStep_53 : decode zc_MO_addStep 53 = .ok (.iload 4, 2) := by decide +kernel
theorem zd_MO_addStep_55 : decode zc_MO_addStep 55 = .ok (.iconst 2, 1) := by decide +kernel
theorem zd_MO_addStep_56 : decode zc_MO_addStep 56 = .ok (.aload_n 0, 1) := by decide +kernel
theorem zd_MO_addStep_57 : decode zc_MO_addStep 57 = .ok (.getfield 33, 3) := by decide +kernel
theorem zd_MO_addStep_60 : decode zc_MO_addStep 60 = .ok (.imul, 1) := by decide +kernel
theorem zd_MO_addStep_61 : decode zc_MO_addStep 61 = .ok (.if_icmp .ge 53, 3) := by decide +kernel
theorem zd_MO_addStep_64 : decode zc_MO_addStep 64 = .ok (.aload_n 0, 1) := by decide +kernel
theorem zd_MO_addStep_65 : decode zc_MO_addStep 65 = .ok (.getfield 45, 3) := by decide +kernel
theorem zd_MO_addStep_68 : decode zc_MO_addStep 68 = .ok (.iload_n 3, 1) := by decide +kernel
theorem zd_MO_addStep_69 : decode zc_MO_addStep 69 = .ok (.iload 4, 2) := by decide +kernel
theorem zd_MO_addStep_71 : decode zc_MO_addStep 71 = .ok (.invokestatic 71, 3) := by decide +kernel
theorem zd_MO_addStep_74 : decode zc_MO_addStep 74 = .ok (.aload_n 0, 1) := by decide +kernel
theorem zd_MO_addStep_75 : decode zc_MO_addStep 75 = .ok (.getfield 45, 3) := by decide +kernel
theorem zd_MO_addStep_78 : decode zc_MO_addStep 78 = .ok (.iload_n 3, 1) := by decide +kernel
theorem zd_MO_addStep_79 : decode zc_MO_addStep 79 = .ok (.iload 4, 2) := by decide +kernel
theorem zd_MO_addStep_81 : decode zc_MO_addStep 81 = .ok (.invokestatic 71, 3) := by decide +kernel
theorem zd_MO_addStep_84 : decode zc_MO_addStep 84 = .ok (.baload, 1) := by decide +kernel
theorem zd_MO_addStep_85 : decode zc_MO_addStep 85 = .ok (.ifCond .ne 17, 3) := by decide +kernel
theorem zd_MO_addStep_88 : decode zc_MO_addStep 88 = .ok (.aload_n 0, 1) := by decide +kernel
theorem zd_MO_addStep_89 : decode zc_MO_addStep 89 = .ok (.getfield 45, 3) := by decide +kernel
theorem zd_MO_addStep_92 : decode zc_MO_addStep 92 = .ok (.iload_n 2, 1) := by decide +kernel
theorem zd_MO_addStep_93 : decode zc_MO_addStep 93 = .ok (.iload 4, 2) := by decide +kernel
theorem zd_MO_addStep_95 : decode zc_MO_addStep 95 = .ok (.invokestatic 71, 3) := by decide +kernel
theorem zd_MO_addStep_98 : decode zc_MO_addStep 98 = .ok (.baload, 1) := by decide +kernel
theorem zd_MO_addStep_99 : decode zc_MO_addStep 99 = .ok (.ifCond .eq 7, 3) := by decide +kernel
theorem zd_MO_addStep_102 : decode zc_MO_addStep 102 = .ok (.iconst 1, 1) := by decide +kernel
theorem zd_MO_addStep_103 : decode zc_MO_addStep 103 = .ok (.goto 4, 3) := by decide +kernel
theorem zd_MO_addStep_106 : decode zc_MO_addStep 106 = .ok (.iconst 0, 1) := by decide +kernel
theorem zd_MO_addStep_107 : decode zc_MO_addStep 107 = .ok (.bastore, 1) := by decide +kernel
theorem zd_MO_addStep_108 : decode zc_MO_addStep 108 = .ok (.iinc 4 1, 3) := by decide +kernel
theorem zd_MO_addStep_111 : decode zc_MO_addStep 111 = .ok (.goto (-58), 3) := by decide +kernel
theorem zd_MO_addStep_114 : decode zc_MO_addStep 114 = .ok (.iinc 3 1, 3) := by decide +kernel
theorem zd_MO_addStep_117 : decode zc_MO_addStep 117 = .ok (.goto (-90), 3) := by decide +kernel
theorem zd_MO_addStep_120 : decode zc_MO_addStep 120 = .ok (.return_, 1) := by decide +kernel
theorem zd_MO_isRound_0 : decode zc_MO_isRound 0 = .ok (.iconst 0, 1) := by decide +kernel
theorem zd_MO_isRound_1 : decode zc_MO_isRound 1 = .ok (.istore_n 1, 1) := by decide +kernel
theorem zd_MO_isRound_2 : decode zc_MO_isRound 2 = .ok (.iload_n 1, 1) := by decide +kernel
theorem zd_MO_isRound_3 : decode zc_MO_isRound 3 = .ok (.iconst 2, 1) := by decide +kernel
theorem zd_MO_isRound_4 : decode zc_MO_isRound 4 = .ok (.aload_n 0, 1) := by decide +kernel
theorem zd_MO_isRound_5 : decode zc_MO_isRound 5 = .ok (.getfield 33, 3) := by decide +kernel
theorem zd_MO_isRound_8 : decode zc_MO_isRound 8 = .ok (.imul, 1) := by decide +kernel
theorem zd_MO_isRound_9 : decode zc_MO_isRound 9 = .ok (.if_icmp .ge 41, 3) := by decide +kernel
theorem zd_MO_isRound_12 : decode zc_MO_isRound 12 = .ok (.aload_n 0, 1) := by decide +kernel
theorem zd_MO_isRound_13 : decode zc_MO_isRound 13 = .ok (.getfield 45, 3) := by decide +kernel
theorem zd_MO_isRound_16 : decode zc_MO_isRound 16 = .ok (.iload_n 1, 1) := by decide +kernel
theorem zd_MO_isRound_17 : decode zc_MO_isRound 17 = .ok (.iload_n 1, 1) := by decide +kernel
theorem zd_MO_isRound_18 : decode zc_MO_isRound 18 = .ok (.iconst 1, 1) := by decide +kernel
theorem zd_MO_isRound_19 : decode zc_MO_isRound 19 = .ok (.iadd, 1) := by decide +kernel
theorem zd_MO_isRound_20 : decode zc_MO_isRound 20 = .ok (.invokestatic 71, 3) := by decide +kernel
theorem zd_MO_isRound_23 : decode zc_MO_isRound 23 = .ok (.baload, 1) := by decide +kernel
theorem zd_MO_isRound_24 : decode zc_MO_isRound 24 = .ok (.ifCond .eq 20, 3) := by decide +kernel
theorem zd_MO_isRound_27 : decode zc_MO_isRound 27 = .ok (.aload_n 0, 1) := by decide +kernel
theorem zd_MO_isRound_28 : decode zc_MO_isRound 28 = .ok (.getfield 45, 3) := by decide +kernel
theorem zd_MO_isRound_31 : decode zc_MO_isRound 31 = .ok (.iload_n 1, 1) := by decide +kernel
theorem zd_MO_isRound_32 : decode zc_MO_isRound 32 = .ok (.iconst 1, 1) := by decide +kernel
theorem zd_MO_isRound_33 : decode zc_MO_isRound 33 = .ok (.iadd, 1) := by decide +kernel
theorem zd_MO_isRound_34 : decode zc_MO_isRound 34 = .ok (.iload_n 1, 1) := by decide +kernel
theorem zd_MO_isRound_35 : decode zc_MO_isRound 35 = .ok (.invokestatic 71, 3) := by decide +kernel
theorem zd_MO_isRound_38 : decode zc_MO_isRound 38 = .ok (.baload, 1) := by decide +kernel
theorem zd_MO_isRound_39 : decode zc_MO_isRound 39 = .ok (.ifCond .eq 5, 3) := by decide +kernel
theorem zd_MO_isRound_42 : decode zc_MO_isRound 42 = .ok (.iconst 1, 1) := by decide +kernel
theorem zd_MO_isRound_43 : decode zc_MO_isRound 43 = .ok (.ireturn, 1) := by decide +kernel
theorem zd_MO_isRound_44 : decode zc_MO_isRound 44 = .ok (.iinc 1 2, 3) := by decide +kernel
theorem zd_MO_isRound_47 : decode zc_MO_isRound 47 = .ok (.goto (-45), 3) := by decide +kernel
theorem zd_MO_isRound_50 : decode zc_MO_isRound 50 = .ok (.iconst 0, 1) := by decide +kernel
theorem zd_MO_isRound_51 : decode zc_MO_isRound 51 = .ok (.ireturn, 1) := by decide +kernel
theorem zd_MO_value_0 : decode zc_MO_value 0 = .ok (.aload_n 0, 1) := by decide +kernel
theorem zd_MO_value_1 : decode zc_MO_value 1 = .ok (.invokevirtual 143, 3) := by decide +kernel
theorem zd_MO_value_4 : decode zc_MO_value 4 = .ok (.aload_n 0, 1) := by decide +kernel
theorem zd_MO_value_5 : decode zc_MO_value 5 = .ok (.iload_n 1, 1) := by decide +kernel
theorem zd_MO_value_6 : decode zc_MO_value 6 = .ok (.iconst 1, 1) := by decide +kernel
theorem zd_MO_value_7 : decode zc_MO_value 7 = .ok (.if_icmp .lt 11, 3) := by decide +kernel
theorem zd_MO_value_10 : decode zc_MO_value 10 = .ok (.iload_n 1, 1) := by decide +kernel
theorem zd_MO_value_11 : decode zc_MO_value 11 = .ok (.aload_n 0, 1) := by decide +kernel
theorem zd_MO_value_12 : decode zc_MO_value 12 = .ok (.getfield 33, 3) := by decide +kernel
theorem zd_MO_value_15 : decode zc_MO_value 15 = .ok (.if_icmp .le 7, 3) := by decide +kernel
theorem zd_MO_value_18 : decode zc_MO_value 18 = .ok (.iconst 1, 1) := by decide +kernel
theorem zd_MO_value_19 : decode zc_MO_value 19 = .ok (.goto 15, 3) := by decide +kernel
theorem zd_MO_value_22 : decode zc_MO_value 22 = .ok (.aload_n 0, 1) := by decide +kernel
theorem zd_MO_value_23 : decode zc_MO_value 23 = .ok (.getfield 140, 3) := by decide +kernel
theorem zd_MO_value_26 : decode zc_MO_value 26 = .ok (.ifCond .ne 7, 3) := by decide +kernel
theorem zd_MO_value_29 : decode zc_MO_value 29 = .ok (.iconst 2, 1) := by decide +kernel
theorem zd_MO_value_30 : decode zc_MO_value 30 = .ok (.goto 4, 3) := by decide +kernel
theorem zd_MO_value_33 : decode zc_MO_value 33 = .ok (.iconst 0, 1) := by decide +kernel
theorem zd_MO_value_34 : decode zc_MO_value 34 = .ok (.putfield 57, 3) := by decide +kernel
theorem zd_MO_value_37 : decode zc_MO_value 37 = .ok (.aload_n 0, 1) := by decide +kernel
theorem zd_MO_value_38 : decode zc_MO_value 38 = .ok (.getfield 57, 3) := by decide +kernel
theorem zd_MO_value_41 : decode zc_MO_value 41 = .ok (.ifCond .le 7, 3) := by decide +kernel
theorem zd_MO_value_44 : decode zc_MO_value 44 = .ok (.iconst 0, 1) := by decide +kernel
theorem zd_MO_value_45 : decode zc_MO_value 45 = .ok (.goto 11, 3) := by decide +kernel
theorem zd_MO_value_48 : decode zc_MO_value 48 = .ok (.aload_n 0, 1) := by decide +kernel
theorem zd_MO_value_49 : decode zc_MO_value 49 = .ok (.getfield 48, 3) := by decide +kernel
theorem zd_MO_value_52 : decode zc_MO_value 52 = .ok (.iload_n 1, 1) := by decide +kernel
theorem zd_MO_value_53 : decode zc_MO_value 53 = .ok (.iconst 1, 1) := by decide +kernel
theorem zd_MO_value_54 : decode zc_MO_value 54 = .ok (.isub, 1) := by decide +kernel
theorem zd_MO_value_55 : decode zc_MO_value 55 = .ok (.iaload, 1) := by decide +kernel
theorem zd_MO_value_56 : decode zc_MO_value 56 = .ok (.ireturn, 1) := by decide +kernel
theorem zd_MO_fixed_0 : decode zc_MO_fixed 0 = .ok (.aload_n 0, 1) := by decide +kernel
theorem zd_MO_fixed_1 : decode zc_MO_fixed 1 = .ok (.invokevirtual 143, 3) := by decide +kernel
theorem zd_MO_fixed_4 : decode zc_MO_fixed 4 = .ok (.aload_n 0, 1) := by decide +kernel
theorem zd_MO_fixed_5 : decode zc_MO_fixed 5 = .ok (.iload_n 1, 1) := by decide +kernel
theorem zd_MO_fixed_6 : decode zc_MO_fixed 6 = .ok (.iconst 1, 1) := by decide +kernel
theorem zd_MO_fixed_7 : decode zc_MO_fixed 7 = .ok (.if_icmp .lt 11, 3) := by decide +kernel
theorem zd_MO_fixed_10 : decode zc_MO_fixed 10 = .ok (.iload_n 1, 1) := by decide +kernel
theorem zd_MO_fixed_11 : decode zc_MO_fixed 11 = .ok (.aload_n 0, 1) := by decide +kernel
theorem zd_MO_fixed_12 : decode zc_MO_fixed 12 = .ok (.getfield 33, 3) := by decide +kernel
theorem zd_MO_fixed_15 : decode zc_MO_fixed 15 = .ok (.if_icmp .le 7, 3) := by decide +kernel
theorem zd_MO_fixed_18 : decode zc_MO_fixed 18 = .ok (.iconst 1, 1) := by decide +kernel
theorem zd_MO_fixed_19 : decode zc_MO_fixed 19 = .ok (.goto 15, 3) := by decide +kernel
theorem zd_MO_fixed_22 : decode zc_MO_fixed 22 = .ok (.aload_n 0, 1) := by decide +kernel
theorem zd_MO_fixed_23 : decode zc_MO_fixed 23 = .ok (.getfield 140, 3) := by decide +kernel
theorem zd_MO_fixed_26 : decode zc_MO_fixed 26 = .ok (.ifCond .ne 7, 3) := by decide +kernel
theorem zd_MO_fixed_29 : decode zc_MO_fixed 29 = .ok (.iconst 2, 1) := by decide +kernel
theorem zd_MO_fixed_30 : decode zc_MO_fixed 30 = .ok (.goto 4, 3) := by decide +kernel
theorem zd_MO_fixed_33 : decode zc_MO_fixed 33 = .ok (.iconst 0, 1) := by decide +kernel
theorem zd_MO_fixed_34 : decode zc_MO_fixed 34 = .ok (.putfield 57, 3) := by decide +kernel
theorem zd_MO_fixed_37 : decode zc_MO_fixed 37 = .ok (.aload_n 0, 1) := by decide +kernel
theorem zd_MO_fixed_38 : decode zc_MO_fixed 38 = .ok (.getfield 57, 3) := by decide +kernel
theorem zd_MO_fixed_41 : decode zc_MO_fixed 41 = .ok (.ifCond .le 5, 3) := by decide +kernel
theorem zd_MO_fixed_44 : decode zc_MO_fixed 44 = .ok (.iconst 0, 1) := by decide +kernel
theorem zd_MO_fixed_45 : decode zc_MO_fixed 45 = .ok (.ireturn, 1) := by decide +kernel
theorem zd_MO_fixed_46 : decode zc_MO_fixed 46 = .ok (.aload_n 0, 1) := by decide +kernel
theorem zd_MO_fixed_47 : decode zc_MO_fixed 47 = .ok (.iconst 2, 1) := by decide +kernel
theorem zd_MO_fixed_48 : decode zc_MO_fixed 48 = .ok (.iload_n 1, 1) := by decide +kernel
theorem zd_MO_fixed_49 : decode zc_MO_fixed 49 = .ok (.imul, 1) := by decide +kernel
theorem zd_MO_fixed_50 : decode zc_MO_fixed 50 = .ok (.iconst 2, 1) := by decide +kernel
theorem zd_MO_fixed_51 : decode zc_MO_fixed 51 = .ok (.isub, 1) := by decide +kernel
theorem zd_MO_fixed_52 : decode zc_MO_fixed 52 = .ok (.invokevirtual 146, 3) := by decide +kernel
theorem zd_MO_fixed_55 : decode zc_MO_fixed 55 = .ok (.ifCond .eq 7, 3) := by decide +kernel
theorem zd_MO_fixed_58 : decode zc_MO_fixed 58 = .ok (.iconst 0, 1) := by decide +kernel
theorem zd_MO_fixed_59 : decode zc_MO_fixed 59 = .ok (.goto 20, 3) := by decide +kernel
theorem zd_MO_fixed_62 : decode zc_MO_fixed 62 = .ok (.aload_n 0, 1) := by decide +kernel
theorem zd_MO_fixed_63 : decode zc_MO_fixed 63 = .ok (.iconst 2, 1) := by decide +kernel
theorem zd_MO_fixed_64 : decode zc_MO_fixed 64 = .ok (.iload_n 1, 1) := by decide +kernel
theorem zd_MO_fixed_65 : decode zc_MO_fixed 65 = .ok (.imul, 1) := by decide +kernel
theorem zd_MO_fixed_66 : decode zc_MO_fixed 66 = .ok (.iconst 1, 1) := by decide +kernel
theorem zd_MO_fixed_67 : decode zc_MO_fixed 67 = .ok (.isub, 1) := by decide +kernel
theorem zd_MO_fixed_68 : decode zc_MO_fixed 68 = .ok (.invokevirtual 146, 3) := by decide +kernel
theorem zd_MO_fixed_71 : decode zc_MO_fixed 71 = .ok (.ifCond .eq 7, 3) := by decide +kernel
theorem zd_MO_fixed_74 : decode zc_MO_fixed 74 = .ok (.iconst 1, 1) := by decide +kernel
theorem zd_MO_fixed_75 : decode zc_MO_fixed 75 = .ok (.goto 4, 3) := by decide +kernel
theorem zd_MO_fixed_78 : decode zc_MO_fixed 78 = .ok (.iconst 2, 1) := by decide +kernel
theorem zd_MO_fixed_79 : decode zc_MO_fixed 79 = .ok (.ireturn, 1) := by decide +kernel
theorem zd_MO_isNever_0 : decode zc_MO_isNever 0 = .ok (.aload_n 0, 1) := by decide +kernel
theorem zd_MO_isNever_1 : decode zc_MO_isNever 1 = .ok (.getfield 45, 3) := by decide +kernel
theorem zd_MO_isNever_4 : decode zc_MO_isNever 4 = .ok (.iload_n 1, 1) := by decide +kernel
theorem zd_MO_isNever_5 : decode zc_MO_isNever 5 = .ok (.iload_n 1, 1) := by decide +kernel
theorem zd_MO_isNever_6 : decode zc_MO_isNever 6 = .ok (.invokestatic 129, 3) := by decide +kernel
theorem zd_MO_isNever_9 : decode zc_MO_isNever 9 = .ok (.invokestatic 71, 3) := by decide +kernel
theorem zd_MO_isNever_12 : decode zc_MO_isNever 12 = .ok (.baload, 1) := by decide +kernel
theorem zd_MO_isNever_13 : decode zc_MO_isNever 13 = .ok (.ireturn, 1) := by decide +kernel
theorem zd_MO_implies_0 : decode zc_MO_implies 0 = .ok (.aload_n 0, 1) := by decide +kernel
theorem zd_MO_implies_1 : decode zc_MO_implies 1 = .ok (.invokevirtual 143, 3) := by decide +kernel
theorem zd_MO_implies_4 : decode zc_MO_implies 4 = .ok (.aload_n 0, 1) := by decide +kernel
theorem zd_MO_implies_5 : decode zc_MO_implies 5 = .ok (.aload_n 0, 1) := by decide +kernel
theorem zd_MO_implies_6 : decode zc_MO_implies 6 = .ok (.iload_n 1, 1) := by decide +kernel
theorem zd_MO_implies_7 : decode zc_MO_implies 7 = .ok (.invokevirtual 119, 3) := by decide +kernel
theorem zd_MO_implies_10 : decode zc_MO_implies 10 = .ok (.ifCond .ne 11, 3) := by decide +kernel
theorem zd_MO_implies_13 : decode zc_MO_implies 13 = .ok (.aload_n 0, 1) := by decide +kernel
theorem zd_MO_implies_14 : decode zc_MO_implies 14 = .ok (.iload_n 2, 1) := by decide +kernel
theorem zd_MO_implies_15 : decode zc_MO_implies 15 = .ok (.invokevirtual 119, 3) := by decide +kernel
theorem zd_MO_implies_18 : decode zc_MO_implies 18 = .ok (.ifCond .eq 7, 3) := by decide +kernel
theorem zd_MO_implies_21 : decode zc_MO_implies 21 = .ok (.iconst 1, 1) := by decide +kernel
theorem zd_MO_implies_22 : decode zc_MO_implies 22 = .ok (.goto 15, 3) := by decide +kernel
theorem zd_MO_implies_25 : decode zc_MO_implies 25 = .ok (.aload_n 0, 1) := by decide +kernel
theorem zd_MO_implies_26 : decode zc_MO_implies 26 = .ok (.getfield 140, 3) := by decide +kernel
theorem zd_MO_implies_29 : decode zc_MO_implies 29 = .ok (.ifCond .ne 7, 3) := by decide +kernel
theorem zd_MO_implies_32 : decode zc_MO_implies 32 = .ok (.iconst 2, 1) := by decide +kernel
theorem zd_MO_implies_33 : decode zc_MO_implies 33 = .ok (.goto 4, 3) := by decide +kernel
theorem zd_MO_implies_36 : decode zc_MO_implies 36 = .ok (.iconst 0, 1) := by decide +kernel
theorem zd_MO_implies_37 : decode zc_MO_implies 37 = .ok (.putfield 57, 3) := by decide +kernel
theorem zd_MO_implies_40 : decode zc_MO_implies 40 = .ok (.aload_n 0, 1) := by decide +kernel
theorem zd_MO_implies_41 : decode zc_MO_implies 41 = .ok (.getfield 57, 3) := by decide +kernel
theorem zd_MO_implies_44 : decode zc_MO_implies 44 = .ok (.ifCond .ne 22, 3) := by decide +kernel
theorem zd_MO_implies_47 : decode zc_MO_implies 47 = .ok (.aload_n 0, 1) := by decide +kernel
theorem zd_MO_implies_48 : decode zc_MO_implies 48 = .ok (.iload_n 1, 1) := by decide +kernel
theorem zd_MO_implies_49 : decode zc_MO_implies 49 = .ok (.invokestatic 125, 3) := by decide +kernel
theorem zd_MO_implies_52 : decode zc_MO_implies 52 = .ok (.iload_n 2, 1) := by decide +kernel
theorem zd_MO_implies_53 : decode zc_MO_implies 53 = .ok (.invokestatic 125, 3) := by decide +kernel
theorem zd_MO_implies_56 : decode zc_MO_implies 56 = .ok (.invokevirtual 149, 3) := by decide +kernel
theorem zd_MO_implies_59 : decode zc_MO_implies 59 = .ok (.ifCond .eq 7, 3) := by decide +kernel
theorem zd_MO_implies_62 : decode zc_MO_implies 62 = .ok (.iconst 1, 1) := by decide +kernel
theorem zd_MO_implies_63 : decode zc_MO_implies 63 = .ok (.goto 4, 3) := by decide +kernel
theorem zd_MO_implies_66 : decode zc_MO_implies 66 = .ok (.iconst 0, 1) := by decide +kernel
theorem zd_MO_implies_67 : decode zc_MO_implies 67 = .ok (.ireturn, 1) := by decide +kernel
theorem zd_MO_follows_0 : decode zc_MO_follows 0 = .ok (.aload_n 0, 1) := by decide +kernel
theorem zd_MO_follows_1 : decode zc_MO_follows 1 = .ok (.getfield 45, 3) := by decide +kernel
theorem zd_MO_follows_4 : decode zc_MO_follows 4 = .ok (.iload_n 1, 1) := by decide +kernel
theorem zd_MO_follows_5 : decode zc_MO_follows 5 = .ok (.iload_n 2, 1) := by decide +kernel
theorem zd_MO_follows_6 : decode zc_MO_follows 6 = .ok (.invokestatic 71, 3) := by decide +kernel
theorem zd_MO_follows_9 : decode zc_MO_follows 9 = .ok (.baload, 1) := by decide +kernel
theorem zd_MO_follows_10 : decode zc_MO_follows 10 = .ok (.ifCond .ne 22, 3) := by decide +kernel
theorem zd_MO_follows_13 : decode zc_MO_follows 13 = .ok (.aload_n 0, 1) := by decide +kernel
theorem zd_MO_follows_14 : decode zc_MO_follows 14 = .ok (.iload_n 1, 1) := by decide +kernel
theorem zd_MO_follows_15 : decode zc_MO_follows 15 = .ok (.invokevirtual 146, 3) := by decide +kernel
theorem zd_MO_follows_18 : decode zc_MO_follows 18 = .ok (.ifCond .ne 14, 3) := by decide +kernel
theorem zd_MO_follows_21 : decode zc_MO_follows 21 = .ok (.aload_n 0, 1) := by decide +kernel
theorem zd_MO_follows_22 : decode zc_MO_follows 22 = .ok (.iload_n 2, 1) := by decide +kernel
theorem zd_MO_follows_23 : decode zc_MO_follows 23 = .ok (.invokestatic 129, 3) := by decide +kernel
theorem zd_MO_follows_26 : decode zc_MO_follows 26 = .ok (.invokevirtual 146, 3) := by decide +kernel
theorem zd_MO_follows_29 : decode zc_MO_follows 29 = .ok (.ifCond .eq 7, 3) := by decide +kernel
theorem zd_MO_follows_32 : decode zc_MO_follows 32 = .ok (.iconst 1, 1) := by decide +kernel
theorem zd_MO_follows_33 : decode zc_MO_follows 33 = .ok (.goto 4, 3) := by decide +kernel
theorem zd_MO_follows_36 : decode zc_MO_follows 36 = .ok (.iconst 0, 1) := by decide +kernel
theorem zd_MO_follows_37 : decode zc_MO_follows 37 = .ok (.ireturn, 1) := by decide +kernel
theorem zd_MO_fails_0 : decode zc_MO_fails 0 = .ok (.aload_n 0, 1) := by decide +kernel
theorem zd_MO_fails_1 : decode zc_MO_fails 1 = .ok (.iconst 0, 1) := by decide +kernel
theorem zd_MO_fails_2 : decode zc_MO_fails 2 = .ok (.putfield 57, 3) := by decide +kernel
theorem zd_MO_fails_5 : decode zc_MO_fails 5 = .ok (.aload_n 0, 1) := by decide +kernel
theorem zd_MO_fails_6 : decode zc_MO_fails 6 = .ok (.invokevirtual 143, 3) := by decide +kernel
theorem zd_MO_fails_9 : decode zc_MO_fails 9 = .ok (.aload_n 0, 1) := by decide +kernel
theorem zd_MO_fails_10 : decode zc_MO_fails 10 = .ok (.getfield 122, 3) := by decide +kernel
theorem zd_MO_fails_13 : decode zc_MO_fails 13 = .ok (.ireturn, 1) := by decide +kernel
theorem zd_MO_round_0 : decode zc_MO_round 0 = .ok (.aload_n 0, 1) := by decide +kernel
theorem zd_MO_round_1 : decode zc_MO_round 1 = .ok (.iconst 0, 1) := by decide +kernel
theorem zd_MO_round_2 : decode zc_MO_round 2 = .ok (.putfield 57, 3) := by decide +kernel
theorem zd_MO_round_5 : decode zc_MO_round 5 = .ok (.aload_n 0, 1) := by decide +kernel
theorem zd_MO_round_6 : decode zc_MO_round 6 = .ok (.iconst 0, 1) := by decide +kernel
theorem zd_MO_round_7 : decode zc_MO_round 7 = .ok (.invokevirtual 155, 3) := by decide +kernel
theorem zd_MO_round_10 : decode zc_MO_round 10 = .ok (.ireturn, 1) := by decide +kernel
theorem zd_MO_leastRound_0 : decode zc_MO_leastRound 0 = .ok (.aload_n 0, 1) := by decide +kernel
theorem zd_MO_leastRound_1 : decode zc_MO_leastRound 1 = .ok (.invokevirtual 143, 3) := by decide +kernel
theorem zd_MO_leastRound_4 : decode zc_MO_leastRound 4 = .ok (.ldc 108, 2) := by decide +kernel
theorem zd_MO_leastRound_6 : decode zc_MO_leastRound 6 = .ok (.istore_n 2, 1) := by decide +kernel
theorem zd_MO_leastRound_7 : decode zc_MO_leastRound 7 = .ok (.iconst (-1), 1) := by decide +kernel
theorem zd_MO_leastRound_8 : decode zc_MO_leastRound 8 = .ok (.istore_n 3, 1) := by decide +kernel
theorem zd_MO_leastRound_9 : decode zc_MO_leastRound 9 = .ok (.iconst 1, 1) := by decide +kernel
theorem zd_MO_leastRound_10 : decode zc_MO_leastRound 10 = .ok (.istore 4, 2) := by decide +kernel
theorem zd_MO_leastRound_12 : decode zc_MO_leastRound 12 = .ok (.iload 4, 2) := by decide +kernel
theorem zd_MO_leastRound_14 : decode zc_MO_leastRound 14 = .ok (.aload_n 0, 1) := by decide +kernel
theorem zd_MO_leastRound_15 : decode zc_MO_leastRound 15 = .ok (.getfield 33, 3) := by decide +kernel
theorem zd_MO_leastRound_18 : decode zc_MO_leastRound 18 = .ok (.if_icmp .gt 29, 3) := by decide +kernel
theorem zd_MO_leastRound_21 : decode zc_MO_leastRound 21 = .ok (.aload_n 0, 1) := by decide +kernel
theorem zd_MO_leastRound_22 : decode zc_MO_leastRound 22 = .ok (.iload 4, 2) := by decide +kernel
theorem zd_MO_leastRound_24 : decode zc_MO_leastRound 24 = .ok (.invokevirtual 152, 3) := by decide +kernel
theorem zd_MO_leastRound_27 : decode zc_MO_leastRound 27 = .ok (.istore 5, 2) := by decide +kernel
theorem zd_MO_leastRound_29 : decode zc_MO_leastRound 29 = .ok (.iload 5, 2) := by decide +kernel
theorem zd_MO_leastRound_31 : decode zc_MO_leastRound 31 = .ok (.iload_n 2, 1) := by decide +kernel
theorem zd_MO_leastRound_32 : decode zc_MO_leastRound 32 = .ok (.if_icmp .ge 9, 3) := by decide +kernel
theorem zd_MO_leastRound_35 : decode zc_MO_leastRound 35 = .ok (.iload 5, 2) := by decide +kernel
theorem zd_MO_leastRound_37 : decode zc_MO_leastRound 37 = .ok (.istore_n 2, 1) := by decide +kernel
theorem zd_MO_leastRound_38 : decode zc_MO_leastRound 38 = .ok (.iload 4, 2) := by decide +kernel
theorem zd_MO_leastRound_40 : decode zc_MO_leastRound 40 = .ok (.istore_n 3, 1) := by decide +kernel
theorem zd_MO_leastRound_41 : decode zc_MO_leastRound 41 = .ok (.iinc 4 1, 3) := by decide +kernel
theorem zd_MO_leastRound_44 : decode zc_MO_leastRound 44 = .ok (.goto (-32), 3) := by decide +kernel
theorem zd_MO_leastRound_47 : decode zc_MO_leastRound 47 = .ok (.iload_n 3, 1) := by decide +kernel
theorem zd_MO_leastRound_48 : decode zc_MO_leastRound 48 = .ok (.iconst (-1), 1) := by decide +kernel
theorem zd_MO_leastRound_49 : decode zc_MO_leastRound 49 = .ok (.if_icmp .ne 7, 3) := by decide +kernel
theorem zd_MO_leastRound_52 : decode zc_MO_leastRound 52 = .ok (.iconst (-1), 1) := by decide +kernel
theorem zd_MO_leastRound_53 : decode zc_MO_leastRound 53 = .ok (.goto 12, 3) := by decide +kernel
theorem zd_MO_leastRound_56 : decode zc_MO_leastRound 56 = .ok (.iload_n 1, 1) := by decide +kernel
theorem zd_MO_leastRound_57 : decode zc_MO_leastRound 57 = .ok (.ifCond .eq 7, 3) := by decide +kernel
theorem zd_MO_leastRound_60 : decode zc_MO_leastRound 60 = .ok (.iload_n 3, 1) := by decide +kernel
theorem zd_MO_leastRound_61 : decode zc_MO_leastRound 61 = .ok (.goto 4, 3) := by decide +kernel
theorem zd_MO_leastRound_64 : decode zc_MO_leastRound 64 = .ok (.iload_n 2, 1) := by decide +kernel
theorem zd_MO_leastRound_65 : decode zc_MO_leastRound 65 = .ok (.ireturn, 1) := by decide +kernel
theorem zd_MO_roundOf_0 : decode zc_MO_roundOf 0 = .ok (.aload_n 0, 1) := by decide +kernel
theorem zd_MO_roundOf_1 : decode zc_MO_roundOf 1 = .ok (.aload_n 0, 1) := by decide +kernel
theorem zd_MO_roundOf_2 : decode zc_MO_roundOf 2 = .ok (.getfield 42, 3) := by decide +kernel
theorem zd_MO_roundOf_5 : decode zc_MO_roundOf 5 = .ok (.iconst 2, 1) := by decide +kernel
theorem zd_MO_roundOf_6 : decode zc_MO_roundOf 6 = .ok (.aload_n 0, 1) := by decide +kernel
theorem zd_MO_roundOf_7 : decode zc_MO_roundOf 7 = .ok (.getfield 33, 3) := by decide +kernel
theorem zd_MO_roundOf_10 : decode zc_MO_roundOf 10 = .ok (.imul, 1) := by decide +kernel
theorem zd_MO_roundOf_11 : decode zc_MO_roundOf 11 = .ok (.iconst 2, 1) := by decide +kernel
theorem zd_MO_roundOf_12 : decode zc_MO_roundOf 12 = .ok (.iload_n 1, 1) := by decide +kernel
theorem zd_MO_roundOf_13 : decode zc_MO_roundOf 13 = .ok (.imul, 1) := by decide +kernel
theorem zd_MO_roundOf_14 : decode zc_MO_roundOf 14 = .ok (.iconst 2, 1) := by decide +kernel
theorem zd_MO_roundOf_15 : decode zc_MO_roundOf 15 = .ok (.isub, 1) := by decide +kernel
theorem zd_MO_roundOf_16 : decode zc_MO_roundOf 16 = .ok (.invokevirtual 109, 3) := by decide +kernel
theorem zd_MO_roundOf_19 : decode zc_MO_roundOf 19 = .ok (.aload_n 0, 1) := by decide +kernel
theorem zd_MO_roundOf_20 : decode zc_MO_roundOf 20 = .ok (.getfield 51, 3) := by decide +kernel
theorem zd_MO_roundOf_23 : decode zc_MO_roundOf 23 = .ok (.iconst 2, 1) := by decide +kernel
theorem zd_MO_roundOf_24 : decode zc_MO_roundOf 24 = .ok (.iload_n 1, 1) := by decide +kernel
theorem zd_MO_roundOf_25 : decode zc_MO_roundOf 25 = .ok (.imul, 1) := by decide +kernel
theorem zd_MO_roundOf_26 : decode zc_MO_roundOf 26 = .ok (.iconst 1, 1) := by decide +kernel
theorem zd_MO_roundOf_27 : decode zc_MO_roundOf 27 = .ok (.isub, 1) := by decide +kernel
theorem zd_MO_roundOf_28 : decode zc_MO_roundOf 28 = .ok (.iaload, 1) := by decide +kernel
theorem zd_MO_roundOf_29 : decode zc_MO_roundOf 29 = .ok (.istore_n 2, 1) := by decide +kernel
theorem zd_MO_roundOf_30 : decode zc_MO_roundOf 30 = .ok (.aload_n 0, 1) := by decide +kernel
theorem zd_MO_roundOf_31 : decode zc_MO_roundOf 31 = .ok (.aload_n 0, 1) := by decide +kernel
theorem zd_MO_roundOf_32 : decode zc_MO_roundOf 32 = .ok (.getfield 42, 3) := by decide +kernel
theorem zd_MO_roundOf_35 : decode zc_MO_roundOf 35 = .ok (.iconst 2, 1) := by decide +kernel
theorem zd_MO_roundOf_36 : decode zc_MO_roundOf 36 = .ok (.aload_n 0, 1) := by decide +kernel
theorem zd_MO_roundOf_37 : decode zc_MO_roundOf 37 = .ok (.getfield 33, 3) := by decide +kernel
theorem zd_MO_roundOf_40 : decode zc_MO_roundOf 40 = .ok (.imul, 1) := by decide +kernel
theorem zd_MO_roundOf_41 : decode zc_MO_roundOf 41 = .ok (.iconst 2, 1) := by decide +kernel
theorem zd_MO_roundOf_42 : decode zc_MO_roundOf 42 = .ok (.iload_n 1, 1) := by decide +kernel
theorem zd_MO_roundOf_43 : decode zc_MO_roundOf 43 = .ok (.imul, 1) := by decide +kernel
theorem zd_MO_roundOf_44 : decode zc_MO_roundOf 44 = .ok (.iconst 1, 1) := by decide +kernel
theorem zd_MO_roundOf_45 : decode zc_MO_roundOf 45 = .ok (.isub, 1) := by decide +kernel
theorem zd_MO_roundOf_46 : decode zc_MO_roundOf 46 = .ok (.invokevirtual 109, 3) := by decide +kernel
theorem zd_MO_roundOf_49 : decode zc_MO_roundOf 49 = .ok (.iload_n 2, 1) := by decide +kernel
theorem zd_MO_roundOf_50 : decode zc_MO_roundOf 50 = .ok (.aload_n 0, 1) := by decide +kernel
theorem zd_MO_roundOf_51 : decode zc_MO_roundOf 51 = .ok (.getfield 51, 3) := by decide +kernel
theorem zd_MO_roundOf_54 : decode zc_MO_roundOf 54 = .ok (.iconst 2, 1) := by decide +kernel
theorem zd_MO_roundOf_55 : decode zc_MO_roundOf 55 = .ok (.iload_n 1, 1) := by decide +kernel
theorem zd_MO_roundOf_56 : decode zc_MO_roundOf 56 = .ok (.imul, 1) := by decide +kernel
theorem zd_MO_roundOf_57 : decode zc_MO_roundOf 57 = .ok (.iconst 2, 1) := by decide +kernel
theorem zd_MO_roundOf_58 : decode zc_MO_roundOf 58 = .ok (.isub, 1) := by decide +kernel
theorem zd_MO_roundOf_59 : decode zc_MO_roundOf 59 = .ok (.iaload, 1) := by decide +kernel
theorem zd_MO_roundOf_60 : decode zc_MO_roundOf 60 = .ok (.iadd, 1) := by decide +kernel
theorem zd_MO_roundOf_61 : decode zc_MO_roundOf 61 = .ok (.ireturn, 1) := by decide +kernel
theorem zd_MO_rounds_0 : decode zc_MO_rounds 0 = .ok (.aload_n 0, 1) := by decide +kernel
theorem zd_MO_rounds_1 : decode zc_MO_rounds 1 = .ok (.iconst 0, 1) := by decide +kernel
theorem zd_MO_rounds_2 : decode zc_MO_rounds 2 = .ok (.putfield 57, 3) := by decide +kernel
theorem zd_MO_rounds_5 : decode zc_MO_rounds 5 = .ok (.aload_n 0, 1) := by decide +kernel
theorem zd_MO_rounds_6 : decode zc_MO_rounds 6 = .ok (.iconst 1, 1) := by decide +kernel
theorem zd_MO_rounds_7 : decode zc_MO_rounds 7 = .ok (.invokevirtual 155, 3) := by decide +kernel
theorem zd_MO_rounds_10 : decode zc_MO_rounds 10 = .ok (.ireturn, 1) := by decide +kernel
theorem zd_MO_classes_0 : decode zc_MO_classes 0 = .ok (.aload_n 0, 1) := by decide +kernel
theorem zd_MO_classes_1 : decode zc_MO_classes 1 = .ok (.invokevirtual 143, 3) := by decide +kernel
theorem zd_MO_classes_4 : decode zc_MO_classes 4 = .ok (.aload_n 0, 1) := by decide +kernel
theorem zd_MO_classes_5 : decode zc_MO_classes 5 = .ok (.aload_n 0, 1) := by decide +kernel
theorem zd_MO_classes_6 : decode zc_MO_classes 6 = .ok (.getfield 140, 3) := by decide +kernel
theorem zd_MO_classes_9 : decode zc_MO_classes 9 = .ok (.ifCond .eq 7, 3) := by decide +kernel
theorem zd_MO_classes_12 : decode zc_MO_classes 12 = .ok (.iconst 0, 1) := by decide +kernel
theorem zd_MO_classes_13 : decode zc_MO_classes 13 = .ok (.goto 4, 3) := by decide +kernel
theorem zd_MO_classes_16 : decode zc_MO_classes 16 = .ok (.iconst 1, 1) := by decide +kernel
theorem zd_MO_classes_17 : decode zc_MO_classes 17 = .ok (.putfield 57, 3) := by decide +kernel
theorem zd_MO_classes_20 : decode zc_MO_classes 20 = .ok (.iconst 0, 1) := by decide +kernel
theorem zd_MO_classes_21 : decode zc_MO_classes 21 = .ok (.istore_n 1, 1) := by decide +kernel
theorem zd_MO_classes_22 : decode zc_MO_classes 22 = .ok (.iconst 0, 1) := by decide +kernel
theorem zd_MO_classes_23 : decode zc_MO_classes 23 = .ok (.istore_n 2, 1) := by decide +kernel
theorem zd_MO_classes_24 : decode zc_MO_classes 24 = .ok (.iload_n 2, 1) := by decide +kernel
theorem zd_MO_classes_25 : decode zc_MO_classes 25 = .ok (.iconst 2, 1) := by decide +kernel
theorem zd_MO_classes_26 : decode zc_MO_classes 26 = .ok (.aload_n 0, 1) := by decide +kernel
theorem zd_MO_classes_27 : decode zc_MO_classes 27 = .ok (.getfield 33, 3) := by decide +kernel
theorem zd_MO_classes_30 : decode zc_MO_classes 30 = .ok (.imul, 1) := by decide +kernel
theorem zd_MO_classes_31 : decode zc_MO_classes 31 = .ok (.if_icmp .ge 75, 3) := by decide +kernel
theorem zd_MO_classes_34 : decode zc_MO_classes 34 = .ok (.aload_n 0, 1) := by decide +kernel
theorem zd_MO_classes_35 : decode zc_MO_classes 35 = .ok (.getfield 140, 3) := by decide +kernel
theorem zd_MO_classes_38 : decode zc_MO_classes 38 = .ok (.ifCond .eq 68, 3) := by decide +kernel
theorem zd_MO_classes_41 : decode zc_MO_classes 41 = .ok (.iconst 1, 1) := by decide +kernel
theorem zd_MO_classes_42 : decode zc_MO_classes 42 = .ok (.istore_n 3, 1) := by decide +kernel
theorem zd_MO_classes_43 : decode zc_MO_classes 43 = .ok (.iconst 0, 1) := by decide +kernel
theorem zd_MO_classes_44 : decode zc_MO_classes 44 = .ok (.istore 4, 2) := by decide +kernel
theorem zd_MO_classes_46 : decode zc_MO_classes 46 = .ok (.iload 4, 2) := by decide +kernel
theorem zd_MO_classes_48 : decode zc_MO_classes 48 = .ok (.iload_n 2, 1) := by decide +kernel
theorem zd_MO_classes_49 : decode zc_MO_classes 49 = .ok (.if_icmp .ge 39, 3) := by decide +kernel
theorem zd_MO_classes_52 : decode zc_MO_classes 52 = .ok (.iload_n 3, 1) := by decide +kernel
theorem zd_MO_classes_53 : decode zc_MO_classes 53 = .ok (.ifCond .eq 35, 3) := by decide +kernel
theorem zd_MO_classes_56 : decode zc_MO_classes 56 = .ok (.aload_n 0, 1) := by decide +kernel
theorem zd_MO_classes_57 : decode zc_MO_classes 57 = .ok (.iload_n 2, 1) := by decide +kernel
theorem zd_MO_classes_58 : decode zc_MO_classes 58 = .ok (.iload 4, 2) := by decide +kernel
theorem zd_MO_classes_60 : decode zc_MO_classes 60 = .ok (.invokevirtual 149, 3) := by decide +kernel
theorem zd_MO_classes_63 : decode zc_MO_classes 63 = .ok (.ifCond .eq 13, 3) := by decide +kernel
theorem zd_MO_classes_66 : decode zc_MO_classes 66 = .ok (.aload_n 0, 1) := by decide +kernel
theorem zd_MO_classes_67 : decode zc_MO_classes 67 = .ok (.iload 4, 2) := by decide +kernel
theorem zd_MO_classes_69 : decode zc_MO_classes 69 = .ok (.iload_n 2, 1) := by decide +kernel
theorem zd_MO_classes_70 : decode zc_MO_classes 70 = .ok (.invokevirtual 149, 3) := by decide +kernel
theorem zd_MO_classes_73 : decode zc_MO_classes 73 = .ok (.ifCond .ne 7, 3) := by decide +kernel
theorem zd_MO_classes_76 : decode zc_MO_classes 76 = .ok (.iconst 1, 1) := by decide +kernel
theorem zd_MO_classes_77 : decode zc_MO_classes 77 = .ok (.goto 4, 3) := by decide +kernel
theorem zd_MO_classes_80 : decode zc_MO_classes 80 = .ok (.iconst 0, 1) := by decide +kernel
theorem zd_MO_classes_81 : decode zc_MO_classes 81 = .ok (.istore_n 3, 1) := by decide +kernel
theorem zd_MO_classes_82 : decode zc_MO_classes 82 = .ok (.iinc 4 1, 3) := by decide +kernel
theorem zd_MO_classes_85 : decode zc_MO_classes 85 = .ok (.goto (-39), 3) := by decide +kernel
theorem zd_MO_classes_88 : decode zc_MO_classes 88 = .ok (.iload_n 3, 1) := by decide +kernel
theorem zd_MO_classes_89 : decode zc_MO_classes 89 = .ok (.ifCond .eq 9, 3) := by decide +kernel
theorem zd_MO_classes_92 : decode zc_MO_classes 92 = .ok (.iload_n 1, 1) := by decide +kernel
theorem zd_MO_classes_93 : decode zc_MO_classes 93 = .ok (.iconst 1, 1) := by decide +kernel
theorem zd_MO_classes_94 : decode zc_MO_classes 94 = .ok (.iadd, 1) := by decide +kernel
theorem zd_MO_classes_95 : decode zc_MO_classes 95 = .ok (.goto 4, 3) := by decide +kernel
theorem zd_MO_classes_98 : decode zc_MO_classes 98 = .ok (.iload_n 1, 1) := by decide +kernel
theorem zd_MO_classes_99 : decode zc_MO_classes 99 = .ok (.istore_n 1, 1) := by decide +kernel
theorem zd_MO_classes_100 : decode zc_MO_classes 100 = .ok (.iinc 2 1, 3) := by decide +kernel
theorem zd_MO_classes_103 : decode zc_MO_classes 103 = .ok (.goto (-79), 3) := by decide +kernel
theorem zd_MO_classes_106 : decode zc_MO_classes 106 = .ok (.iload_n 1, 1) := by decide +kernel
theorem zd_MO_classes_107 : decode zc_MO_classes 107 = .ok (.ireturn, 1) := by decide +kernel
theorem zd_LA_law_0 : decode zc_LA_law 0 = .ok (.new 8, 3) := by decide +kernel
theorem zd_LA_law_3 : decode zc_LA_law 3 = .ok (.dup, 1) := by decide +kernel
theorem zd_LA_law_4 : decode zc_LA_law 4 = .ok (.invokespecial 65, 3) := by decide +kernel
theorem zd_LA_law_7 : decode zc_LA_law 7 = .ok (.astore_n 1, 1) := by decide +kernel
theorem zd_LA_law_8 : decode zc_LA_law 8 = .ok (.new 66, 3) := by decide +kernel
theorem zd_LA_law_11 : decode zc_LA_law 11 = .ok (.dup, 1) := by decide +kernel
theorem zd_LA_law_12 : decode zc_LA_law 12 = .ok (.invokespecial 68, 3) := by decide +kernel
theorem zd_LA_law_15 : decode zc_LA_law 15 = .ok (.astore_n 2, 1) := by decide +kernel
theorem zd_LA_law_16 : decode zc_LA_law 16 = .ok (.iconst 1, 1) := by decide +kernel
theorem zd_LA_law_17 : decode zc_LA_law 17 = .ok (.newarray .long, 2) := by decide +kernel
theorem zd_LA_law_19 : decode zc_LA_law 19 = .ok (.astore_n 3, 1) := by decide +kernel
theorem zd_LA_law_20 : decode zc_LA_law 20 = .ok (.iconst 0, 1) := by decide +kernel
theorem zd_LA_law_21 : decode zc_LA_law 21 = .ok (.istore 4, 2) := by decide +kernel
theorem zd_LA_law_23 : decode zc_LA_law 23 = .ok (.iload 4, 2) := by decide +kernel
theorem zd_LA_law_25 : decode zc_LA_law 25 = .ok (.aload_n 0, 1) := by decide +kernel
theorem zd_LA_law_26 : decode zc_LA_law 26 = .ok (.arraylength, 1) := by decide +kernel
theorem zd_LA_law_27 : decode zc_LA_law 27 = .ok (.iconst 3, 1) := by decide +kernel
theorem zd_LA_law_28 : decode zc_LA_law 28 = .ok (.isub, 1) := by decide +kernel
theorem zd_LA_law_29 : decode zc_LA_law 29 = .ok (.if_icmp .gt 1076, 3) := by decide +kernel
theorem zd_LA_law_32 : decode zc_LA_law 32 = .ok (.aload_n 0, 1) := by decide +kernel
theorem zd_LA_law_33 : decode zc_LA_law 33 = .ok (.iload 4, 2) := by decide +kernel
theorem zd_LA_law_35 : decode zc_LA_law 35 = .ok (.iaload, 1) := by decide +kernel
theorem zd_LA_law_36 : decode zc_LA_law 36 = .ok (.bipush 31, 2) := by decide +kernel
theorem zd_LA_law_38 : decode zc_LA_law 38 = .ok (.iand, 1) := by decide +kernel
theorem zd_LA_law_39 : decode zc_LA_law 39 = .ok (.tableswitch 1060 0 20 #[97, 133, 201, 276, 289, 345, 413, 488, 556, 624, 637, 673, 741, 777, 790, 846, 902, 977, 990, 1003, 1016], 97) := by decide +kernel
theorem zd_LA_law_136 : decode zc_LA_law 136 = .ok (.aload_n 1, 1) := by decide +kernel
theorem zd_LA_law_137 : decode zc_LA_law 137 = .ok (.aload_n 0, 1) := by decide +kernel
theorem zd_LA_law_138 : decode zc_LA_law 138 = .ok (.iload 4, 2) := by decide +kernel
theorem zd_LA_law_140 : decode zc_LA_law 140 = .ok (.iconst 1, 1) := by decide +kernel
theorem zd_LA_law_141 : decode zc_LA_law 141 = .ok (.iadd, 1) := by decide +kernel
theorem zd_LA_law_142 : decode zc_LA_law 142 = .ok (.iaload, 1) := by decide +kernel
theorem zd_LA_law_143 : decode zc_LA_law 143 = .ok (.invokestatic 69, 3) := by decide +kernel
theorem zd_LA_law_146 : decode zc_LA_law 146 = .ok (.istore 5, 2) := by decide +kernel
theorem zd_LA_law_148 : decode zc_LA_law 148 = .ok (.aload_n 2, 1) := by decide +kernel
theorem zd_LA_law_149 : decode zc_LA_law 149 = .ok (.aload_n 0, 1) := by decide +kernel
theorem zd_LA_law_150 : decode zc_LA_law 150 = .ok (.iload 4, 2) := by decide +kernel
theorem zd_LA_law_152 : decode zc_LA_law 152 = .ok (.iconst 1, 1) := by decide +kernel
theorem zd_LA_law_153 : decode zc_LA_law 153 = .ok (.iadd, 1) := by decide +kernel
theorem zd_LA_law_154 : decode zc_LA_law 154 = .ok (.iaload, 1) := by decide +kernel
theorem zd_LA_law_155 : decode zc_LA_law 155 = .ok (.invokevirtual 74, 3) := by decide +kernel
theorem zd_LA_law_158 : decode zc_LA_law 158 = .ok (.aload_n 2, 1) := by decide +kernel
theorem zd_LA_law_159 : decode zc_LA_law 159 = .ok (.invokevirtual 75, 3) := by decide +kernel
theorem zd_LA_law_162 : decode zc_LA_law 162 = .ok (.iload 5, 2) := by decide +kernel
theorem zd_LA_law_164 : decode zc_LA_law 164 = .ok (.if_icmp .eq 5, 3) := by decide +kernel
theorem zd_LA_law_167 : decode zc_LA_law 167 = .ok (.iconst 0, 1) := by decide +kernel
theorem zd_LA_law_168 : decode zc_LA_law 168 = .ok (.ireturn, 1) := by decide +kernel
theorem zd_LA_law_169 : decode zc_LA_law 169 = .ok (.goto 930, 3) := by decide +kernel
theorem zd_LA_law_172 : decode zc_LA_law 172 = .ok (.aload_n 1, 1) := by decide +kernel
theorem zd_LA_law_173 : decode zc_LA_law 173 = .ok (.aload_n 0, 1) := by decide +kernel
theorem zd_LA_law_174 : decode zc_LA_law 174 = .ok (.iload 4, 2) := by decide +kernel
theorem zd_LA_law_176 : decode zc_LA_law 176 = .ok (.iconst 1, 1) := by decide +kernel
theorem zd_LA_law_177 : decode zc_LA_law 177 = .ok (.iadd, 1) := by decide +kernel
theorem zd_LA_law_178 : decode zc_LA_law 178 = .ok (.iaload, 1) := by decide +kernel
theorem zd_LA_law_179 : decode zc_LA_law 179 = .ok (.aload_n 0, 1) := by decide +kernel
theorem zd_LA_law_180 : decode zc_LA_law 180 = .ok (.iload 4, 2) := by decide +kernel
theorem zd_LA_law_182 : decode zc_LA_law 182 = .ok (.iconst 2, 1) := by decide +kernel
theorem zd_LA_law_183 : decode zc_LA_law 183 = .ok (.iadd, 1) := by decide +kernel
theorem zd_LA_law_184 : decode zc_LA_law 184 = .ok (.iaload, 1) := by decide +kernel
theorem zd_LA_law_185 : decode zc_LA_law 185 = .ok (.aload_n 3, 1) := by decide +kernel
theorem zd_LA_law_186 : decode zc_LA_law 186 = .ok (.invokestatic 78, 3) := by decide +kernel
theorem zd_LA_law_189 : decode zc_LA_law 189 = .ok (.istore 5, 2) := by decide +kernel
theorem zd_LA_law_191 : decode zc_LA_law 191 = .ok (.aload_n 2, 1) := by decide +kernel
theorem zd_LA_law_192 : decode zc_LA_law 192 = .ok (.aload_n 0, 1) := by decide +kernel
theorem zd_LA_law_193 : decode zc_LA_law 193 = .ok (.iload 4, 2) := by decide +kernel
theorem zd_LA_law_195 : decode zc_LA_law 195 = .ok (.iconst 1, 1) := by decide +kernel
theorem zd_LA_law_196 : decode zc_LA_law 196 = .ok (.iadd, 1) := by decide +kernel
theorem zd_LA_law_197 : decode zc_LA_law 197 = .ok (.iaload, 1) := by decide +kernel
theorem zd_LA_law_198 : decode zc_LA_law 198 = .ok (.aload_n 0, 1) := by decide +kernel
theorem zd_LA_law_199 : decode zc_LA_law 199 = .ok (.iload 4, 2) := by decide +kernel
theorem zd_LA_law_201 : decode zc_LA_law 201 = .ok (.iconst 2, 1) := by decide +kernel
theorem zd_LA_law_202 : decode zc_LA_law 202 = .ok (.iadd, 1) := by decide +kernel
theorem zd_LA_law_203 : decode zc_LA_law 203 = .ok (.iaload, 1) := by decide +kernel
theorem zd_LA_law_204 : decode zc_LA_law 204 = .ok (.invokevirtual 81, 3) := by decide +kernel
theorem zd_LA_law_207 : decode zc_LA_law 207 = .ok (.istore 6, 2) := by decide +kernel
theorem zd_LA_law_209 : decode zc_LA_law 209 = .ok (.aload_n 2, 1) := by decide +kernel
theorem zd_LA_law_210 : decode zc_LA_law 210 = .ok (.invokevirtual 75, 3) := by decide +kernel
theorem zd_LA_law_213 : decode zc_LA_law 213 = .ok (.iload 5, 2) := by decide +kernel
theorem zd_LA_law_215 : decode zc_LA_law 215 = .ok (.if_icmp .eq 5, 3) := by decide +kernel
theorem zd_LA_law_218 : decode zc_LA_law 218 = .ok (.iconst 0, 1) := by decide +kernel
theorem zd_LA_law_219 : decode zc_LA_law 219 = .ok (.ireturn, 1) := by decide +kernel
theorem zd_LA_law_220 : decode zc_LA_law 220 = .ok (.iload 5, 2) := by decide +kernel
theorem zd_LA_law_222 : decode zc_LA_law 222 = .ok (.ifCond .ne 15, 3) := by decide +kernel
theorem zd_LA_law_225 : decode zc_LA_law 225 = .ok (.aload_n 3, 1) := by decide +kernel
theorem zd_LA_law_226 : decode zc_LA_law 226 = .ok (.iconst 0, 1) := by decide +kernel
theorem zd_LA_law_227 : decode zc_LA_law 227 = .ok (.laload, 1) := by decide +kernel
theorem zd_LA_law_228 : decode zc_LA_law 228 = .ok (.iload 6, 2) := by decide +kernel
theorem zd_LA_law_230 : decode zc_LA_law 230 = .ok (.i2l, 1) := by decide +kernel
theorem zd_LA_law_231 : decode zc_LA_law 231 = .ok (.lcmp, 1) := by decide +kernel
theorem zd_LA_law_232 : decode zc_LA_law 232 = .ok (.ifCond .eq 5, 3) := by decide +kernel
theorem zd_LA_law_235 : decode zc_LA_law 235 = .ok (.iconst 0, 1) := by decide +kernel
theorem zd_LA_law_236 : decode zc_LA_law 236 = .ok (.ireturn, 1) := by decide +kernel
theorem zd_LA_law_237 : decode zc_LA_law 237 = .ok (.goto 862, 3) := by decide +kernel
theorem zd_LA_law_240 : decode zc_LA_law 240 = .ok (.aload_n 1, 1) := by decide +kernel
theorem zd_LA_law_241 : decode zc_LA_law 241 = .ok (.aload_n 0, 1) := by decide +kernel
theorem zd_LA_law_242 : decode zc_LA_law 242 = .ok (.iload 4, 2) := by decide +kernel
theorem zd_LA_law_244 : decode zc_LA_law 244 = .ok (.iconst 1, 1) := by decide +kernel
theorem zd_LA_law_245 : decode zc_LA_law 245 = .ok (.iadd, 1) := by decide +kernel
theorem zd_LA_law_246 : decode zc_LA_law 246 = .ok (.iaload, 1) := by decide +kernel
theorem zd_LA_law_247 : decode zc_LA_law 247 = .ok (.aload_n 0, 1) := by decide +kernel
theorem zd_LA_law_248 : decode zc_LA_law 248 = .ok (.iload 4, 2) := by decide +kernel
theorem zd_LA_law_250 : decode zc_LA_law 250 = .ok (.iconst 2, 1) := by decide +kernel
theorem zd_LA_law_251 : decode zc_LA_law 251 = .ok (.iadd, 1) := by decide +kernel
theorem zd_LA_law_252 : decode zc_LA_law 252 = .ok (.iaload, 1) := by decide +kernel
theorem zd_LA_law_253 : decode zc_LA_law 253 = .ok (.aload_n 3, 1) := by decide +kernel
theorem zd_LA_law_254 : decode zc_LA_law 254 = .ok (.invokestatic 82, 3) := by decide +kernel
theorem zd_LA_law_257 : decode zc_LA_law 257 = .ok (.istore 5, 2) := by decide +kernel
theorem zd_LA_law_259 : decode zc_LA_law 259 = .ok (.aload_n 2, 1) := by decide +kernel
theorem zd_LA_law_260 : decode zc_LA_law 260 = .ok (.aload_n 0, 1) := by decide +kernel
theorem zd_LA_law_261 : decode zc_LA_law 261 = .ok (.iload 4, 2) := by decide +kernel
theorem zd_LA_law_263 : decode zc_LA_law 263 = .ok (.iconst 1, 1) := by decide +kernel
theorem zd_LA_law_264 : decode zc_LA_law 264 = .ok (.iadd, 1) := by decide +kernel
theorem zd_LA_law_265 : decode zc_LA_law 265 = .ok (.iaload, 1) := by decide +kernel
theorem zd_LA_law_266 : decode zc_LA_law 266 = .ok (.aload_n 0, 1) := by decide +kernel
theorem zd_LA_law_267 : decode zc_LA_law 267 = .ok (.iload 4, 2) := by decide +kernel
theorem zd_LA_law_269 : decode zc_LA_law 269 = .ok (.iconst 2, 1) := by decide +kernel
theorem zd_LA_law_270 : decode zc_LA_law 270 = .ok (.iadd, 1) := by decide +kernel
theorem zd_LA_law_271 : decode zc_LA_law 271 = .ok (.iaload, 1) := by decide +kernel
theorem zd_LA_law_272 : decode zc_LA_law 272 = .ok (.invokevirtual 84, 3) := by decide +kernel
theorem zd_LA_law_275 : decode zc_LA_law 275 = .ok (.istore 6, 2) := by decide +kernel
theorem zd_LA_law_277 : decode zc_LA_law 277 = .ok (.aload_n 2, 1) := by decide +kernel
theorem zd_LA_law_278 : decode zc_LA_law 278 = .ok (.invokevirtual 75, 3) := by decide +kernel
theorem zd_LA_law_281 : decode zc_LA_law 281 = .ok (.iload 5, 2) := by decide +kernel
theorem zd_LA_law_283 : decode zc_LA_law 283 = .ok (.if_icmp .eq 5, 3) := by decide +kernel
theorem zd_LA_law_286 : decode zc_LA_law 286 = .ok (.iconst 0, 1) := by decide +kernel
theorem zd_LA_law_287 : decode zc_LA_law 287 = .ok (.ireturn, 1) := by decide +kernel
theorem zd_LA_law_288 : decode zc_LA_law 288 = .ok (.iload 5, 2) := by decide +kernel
theorem zd_LA_law_290 : decode zc_LA_law 290 = .ok (.ifCond .ne 22, 3) := by decide +kernel
theorem zd_LA_law_293 : decode zc_LA_law 293 = .ok (.aload_n 3, 1) := by decide +kernel
theorem zd_LA_law_294 : decode zc_LA_law 294 = .ok (.iconst 0, 1) := by decide +kernel
theorem zd_LA_law_295 : decode zc_LA_law 295 = .ok (.laload, 1) := by decide +kernel
theorem zd_LA_law_296 : decode zc_LA_law 296 = .ok (.iload 6, 2) := by decide +kernel
theorem zd_LA_law_298 : decode zc_LA_law 298 = .ok (.ifCond .eq 7, 3) := by decide +kernel
theorem zd_LA_law_301 : decode zc_LA_law 301 = .ok (.lconst 1, 1) := by decide +kernel
theorem zd_LA_law_302 : decode zc_LA_law 302 = .ok (.goto 4, 3) := by decide +kernel
theorem zd_LA_law_305 : decode zc_LA_law 305 = .ok (.lconst 0, 1) := by decide +kernel
theorem zd_LA_law_306 : decode zc_LA_law 306 = .ok (.lcmp, 1) := by decide +kernel
theorem zd_LA_law_307 : decode zc_LA_law 307 = .ok (.ifCond .eq 5, 3) := by decide +kernel
theorem zd_LA_law_310 : decode zc_LA_law 310 = .ok (.iconst 0, 1) := by decide +kernel
theorem zd_LA_law_311 : decode zc_LA_law 311 = .ok (.ireturn, 1) := by decide +kernel
theorem zd_LA_law_312 : decode zc_LA_law 312 = .ok (.goto 787, 3) := by decide +kernel
theorem zd_LA_law_315 : decode zc_LA_law 315 = .ok (.aload_n 1, 1) := by decide +kernel
theorem zd_LA_law_316 : decode zc_LA_law 316 = .ok (.invokevirtual 85, 3) := by decide +kernel
theorem zd_LA_law_319 : decode zc_LA_law 319 = .ok (.aload_n 2, 1) := by decide +kernel
theorem zd_LA_law_320 : decode zc_LA_law 320 = .ok (.invokevirtual 88, 3) := by decide +kernel
theorem zd_LA_law_323 : decode zc_LA_law 323 = .ok (.if_icmp .eq 776, 3) := by decide +kernel
theorem zd_LA_law_326 : decode zc_LA_law 326 = .ok (.iconst 0, 1) := by decide +kernel
theorem zd_LA_law_327 : decode zc_LA_law 327 = .ok (.ireturn, 1) := by decide +kernel
theorem zd_LA_law_328 : decode zc_LA_law 328 = .ok (.aload_n 1, 1) := by decide +kernel
theorem zd_LA_law_329 : decode zc_LA_law 329 = .ok (.aload_n 0, 1) := by decide +kernel
theorem zd_LA_law_330 : decode zc_LA_law 330 = .ok (.iload 4, 2) := by decide +kernel
theorem zd_LA_law_332 : decode zc_LA_law 332 = .ok (.iconst 1, 1) := by decide +kernel
theorem zd_LA_law_333 : decode zc_LA_law 333 = .ok (.iadd, 1) := by decide +kernel
theorem zd_LA_law_334 : decode zc_LA_law 334 = .ok (.iaload, 1) := by decide +kernel
theorem zd_LA_law_335 : decode zc_LA_law 335 = .ok (.aload_n 3, 1) := by decide +kernel
theorem zd_LA_law_336 : decode zc_LA_law 336 = .ok (.invokestatic 89, 3) := by decide +kernel
theorem zd_LA_law_339 : decode zc_LA_law 339 = .ok (.istore 5, 2) := by decide +kernel
theorem zd_LA_law_341 : decode zc_LA_law 341 = .ok (.aload_n 2, 1) := by decide +kernel
theorem zd_LA_law_342 : decode zc_LA_law 342 = .ok (.aload_n 0, 1) := by decide +kernel
theorem zd_LA_law_343 : decode zc_LA_law 343 = .ok (.iload 4, 2) := by decide +kernel
theorem zd_LA_law_345 : decode zc_LA_law 345 = .ok (.iconst 1, 1) := by decide +kernel
theorem zd_LA_law_346 : decode zc_LA_law 346 = .ok (.iadd, 1) := by decide +kernel
theorem zd_LA_law_347 : decode zc_LA_law 347 = .ok (.iaload, 1) := by decide +kernel
theorem zd_LA_law_348 : decode zc_LA_law 348 = .ok (.invokevirtual 92, 3) := by decide +kernel
theorem zd_LA_law_351 : decode zc_LA_law 351 = .ok (.istore 6, 2) := by decide +kernel
theorem zd_LA_law_353 : decode zc_LA_law 353 = .ok (.aload_n 2, 1) := by decide +kernel
theorem zd_LA_law_354 : decode zc_LA_law 354 = .ok (.invokevirtual 75, 3) := by decide +kernel
theorem zd_LA_law_357 : decode zc_LA_law 357 = .ok (.iload 5, 2) := by decide +kernel
theorem zd_LA_law_359 : decode zc_LA_law 359 = .ok (.if_icmp .eq 5, 3) := by decide +kernel
theorem zd_LA_law_362 : decode zc_LA_law 362 = .ok (.iconst 0, 1) := by decide +kernel
theorem zd_LA_law_363 : decode zc_LA_law 363 = .ok (.ireturn, 1) := by decide +kernel
theorem zd_LA_law_364 : decode zc_LA_law 364 = .ok (.iload 5, 2) := by decide +kernel
theorem zd_LA_law_366 : decode zc_LA_law 366 = .ok (.ifCond .ne 15, 3) := by decide +kernel
theorem zd_LA_law_369 : decode zc_LA_law 369 = .ok (.aload_n 3, 1) := by decide +kernel
theorem zd_LA_law_370 : decode zc_LA_law 370 = .ok (.iconst 0, 1) := by decide +kernel
theorem zd_LA_law_371 : decode zc_LA_law 371 = .ok (.laload, 1) := by decide +kernel
theorem zd_LA_law_372 : decode zc_LA_law 372 = .ok (.iload 6, 2) := by decide +kernel
theorem zd_LA_law_374 : decode zc_LA_law 374 = .ok (.i2l, 1) := by decide +kernel
theorem zd_LA_law_375 : decode zc_LA_law 375 = .ok (.lcmp, 1) := by decide +kernel
theorem zd_LA_law_376 : decode zc_LA_law 376 = .ok (.ifCond .eq 5, 3) := by decide +kernel
theorem zd_LA_law_379 : decode zc_LA_law 379 = .ok (.iconst 0, 1) := by decide +kernel
theorem zd_LA_law_380 : decode zc_LA_law 380 = .ok (.ireturn, 1) := by decide +kernel
theorem zd_LA_law_381 : decode zc_LA_law 381 = .ok (.goto 718, 3) := by decide +kernel
theorem zd_LA_law_384 : decode zc_LA_law 384 = .ok (.aload_n 1, 1) := by decide +kernel
theorem zd_LA_law_385 : decode zc_LA_law 385 = .ok (.aload_n 0, 1) := by decide +kernel
theorem zd_LA_law_386 : decode zc_LA_law 386 = .ok (.iload 4, 2) := by decide +kernel
theorem zd_LA_law_388 : decode zc_LA_law 388 = .ok (.iconst 1, 1) := by decide +kernel
theorem zd_LA_law_389 : decode zc_LA_law 389 = .ok (.iadd, 1) := by decide +kernel
theorem zd_LA_law_390 : decode zc_LA_law 390 = .ok (.iaload, 1) := by decide +kernel
theorem zd_LA_law_391 : decode zc_LA_law 391 = .ok (.aload_n 0, 1) := by decide +kernel
theorem zd_LA_law_392 : decode zc_LA_law 392 = .ok (.iload 4, 2) := by decide +kernel
theorem zd_LA_law_394 : decode zc_LA_law 394 = .ok (.iconst 2, 1) := by decide +kernel
theorem zd_LA_law_395 : decode zc_LA_law 395 = .ok (.iadd, 1) := by decide +kernel
theorem zd_LA_law_396 : decode zc_LA_law 396 = .ok (.iaload, 1) := by decide +kernel
theorem zd_LA_law_397 : decode zc_LA_law 397 = .ok (.aload_n 3, 1) := by decide +kernel
theorem zd_LA_law_398 : decode zc_LA_law 398 = .ok (.invokestatic 93, 3) := by decide +kernel
theorem zd_LA_law_401 : decode zc_LA_law 401 = .ok (.istore 5, 2) := by decide +kernel
theorem zd_LA_law_403 : decode zc_LA_law 403 = .ok (.aload_n 2, 1) := by decide +kernel
theorem zd_LA_law_404 : decode zc_LA_law 404 = .ok (.aload_n 0, 1) := by decide +kernel
theorem zd_LA_law_405 : decode zc_LA_law 405 = .ok (.iload 4, 2) := by decide +kernel
theorem zd_LA_law_407 : decode zc_LA_law 407 = .ok (.iconst 1, 1) := by decide +kernel
theorem zd_LA_law_408 : decode zc_LA_law 408 = .ok (.iadd, 1) := by decide +kernel
theorem zd_LA_law_409 : decode zc_LA_law 409 = .ok (.iaload, 1) := by decide +kernel
theorem zd_LA_law_410 : decode zc_LA_law 410 = .ok (.aload_n 0, 1) := by decide +kernel
theorem zd_LA_law_411 : decode zc_LA_law 411 = .ok (.iload 4, 2) := by decide +kernel
theorem zd_LA_law_413 : decode zc_LA_law 413 = .ok (.iconst 2, 1) := by decide +kernel
theorem zd_LA_law_414 : decode zc_LA_law 414 = .ok (.iadd, 1) := by decide +kernel
theorem zd_LA_law_415 : decode zc_LA_law 415 = .ok (.iaload, 1) := by decide +kernel
theorem zd_LA_law_416 : decode zc_LA_law 416 = .ok (.invokevirtual 95, 3) := by decide +kernel
theorem zd_LA_law_419 : decode zc_LA_law 419 = .ok (.istore 6, 2) := by decide +kernel
theorem zd_LA_law_421 : decode zc_LA_law 421 = .ok (.aload_n 2, 1) := by decide +kernel
theorem zd_LA_law_422 : decode zc_LA_law 422 = .ok (.invokevirtual 75, 3) := by decide +kernel
theorem zd_LA_law_425 : decode zc_LA_law 425 = .ok (.iload 5, 2) := by decide +kernel
theorem zd_LA_law_427 : decode zc_LA_law 427 = .ok (.if_icmp .eq 5, 3) := by decide +kernel
theorem zd_LA_law_430 : decode zc_LA_law 430 = .ok (.iconst 0, 1) := by decide +kernel
theorem zd_LA_law_431 : decode zc_LA_law 431 = .ok (.ireturn, 1) := by decide +kernel
theorem zd_LA_law_432 : decode zc_LA_law 432 = .ok (.iload 5, 2) := by decide +kernel
theorem zd_LA_law_434 : decode zc_LA_law 434 = .ok (.ifCond .ne 15, 3) := by decide +kernel
theorem zd_LA_law_437 : decode zc_LA_law 437 = .ok (.aload_n 3, 1) := by decide +kernel
theorem zd_LA_law_438 : decode zc_LA_law 438 = .ok (.iconst 0, 1) := by decide +kernel
theorem zd_LA_law_439 : decode zc_LA_law 439 = .ok (.laload, 1) := by decide +kernel
theorem zd_LA_law_440 : decode zc_LA_law 440 = .ok (.iload 6, 2) := by decide +kernel
theorem zd_LA_law_442 : decode zc_LA_law 442 = .ok (.i2l, 1) := by decide +kernel
theorem zd_LA_law_443 : decode zc_LA_law 443 = .ok (.lcmp, 1) := by decide +kernel
theorem zd_LA_law_444 : decode zc_LA_law 444 = .ok (.ifCond .eq 5, 3) := by decide +kernel
theorem zd_LA_law_447 : decode zc_LA_law 447 = .ok (.iconst 0, 1) := by decide +kernel
theorem zd_LA_law_448 : decode zc_LA_law 448 = .ok (.ireturn, 1) := by decide +kernel
theorem zd_LA_law_449 : decode zc_LA_law 449 = .ok (.goto 650, 3) := by decide +kernel
theorem zd_LA_law_452 : decode zc_LA_law 452 = .ok (.aload_n 1, 1) := by decide +kernel
theorem zd_LA_law_453 : decode zc_LA_law 453 = .ok (.aload_n 0, 1) := by decide +kernel
theorem zd_LA_law_454 : decode zc_LA_law 454 = .ok (.iload 4, 2) := by decide +kernel
theorem zd_LA_law_456 : decode zc_LA_law 456 = .ok (.iconst 1, 1) := by decide +kernel
theorem zd_LA_law_457 : decode zc_LA_law 457 = .ok (.iadd, 1) := by decide +kernel
theorem zd_LA_law_458 : decode zc_LA_law 458 = .ok (.iaload, 1) := by decide +kernel
theorem zd_LA_law_459 : decode zc_LA_law 459 = .ok (.aload_n 0, 1) := by decide +kernel
theorem zd_LA_law_460 : decode zc_LA_law 460 = .ok (.iload 4, 2) := by decide +kernel
theorem zd_LA_law_462 : decode zc_LA_law 462 = .ok (.iconst 2, 1) := by decide +kernel
theorem zd_LA_law_463 : decode zc_LA_law 463 = .ok (.iadd, 1) := by decide +kernel
theorem zd_LA_law_464 : decode zc_LA_law 464 = .ok (.iaload, 1) := by decide +kernel
theorem zd_LA_law_465 : decode zc_LA_law 465 = .ok (.aload_n 3, 1) := by decide +kernel
theorem zd_LA_law_466 : decode zc_LA_law 466 = .ok (.invokestatic 96, 3) := by decide +kernel
theorem zd_LA_law_469 : decode zc_LA_law 469 = .ok (.istore 5, 2) := by decide +kernel
theorem zd_LA_law_471 : decode zc_LA_law 471 = .ok (.aload_n 2, 1) := by decide +kernel
theorem zd_LA_law_472 : decode zc_LA_law 472 = .ok (.aload_n 0, 1) := by decide +kernel
theorem zd_LA_law_473 : decode zc_LA_law 473 = .ok (.iload 4, 2) := by decide +kernel
theorem zd_LA_law_475 : decode zc_LA_law 475 = .ok (.iconst 1, 1) := by decide +kernel
theorem zd_LA_law_476 : decode zc_LA_law 476 = .ok (.iadd, 1) := by decide +kernel
theorem zd_LA_law_477 : decode zc_LA_law 477 = .ok (.iaload, 1) := by decide +kernel
theorem zd_LA_law_478 : decode zc_LA_law 478 = .ok (.aload_n 0, 1) := by decide +kernel
theorem zd_LA_law_479 : decode zc_LA_law 479 = .ok (.iload 4, 2) := by decide +kernel
theorem zd_LA_law_481 : decode zc_LA_law 481 = .ok (.iconst 2, 1) := by decide +kernel
theorem zd_LA_law_482 : decode zc_LA_law 482 = .ok (.iadd, 1) := by decide +kernel
theorem zd_LA_law_483 : decode zc_LA_law 483 = .ok (.iaload, 1) := by decide +kernel
theorem zd_LA_law_484 : decode zc_LA_law 484 = .ok (.invokevirtual 98, 3) := by decide +kernel
theorem zd_LA_law_487 : decode zc_LA_law 487 = .ok (.istore 6, 2) := by decide +kernel
theorem zd_LA_law_489 : decode zc_LA_law 489 = .ok (.aload_n 2, 1) := by decide +kernel
theorem zd_LA_law_490 : decode zc_LA_law 490 = .ok (.invokevirtual 75, 3) := by decide +kernel
theorem zd_LA_law_493 : decode zc_LA_law 493 = .ok (.iload 5, 2) := by decide +kernel
theorem zd_LA_law_495 : decode zc_LA_law 495 = .ok (.if_icmp .eq 5, 3) := by decide +kernel
theorem zd_LA_law_498 : decode zc_LA_law 498 = .ok (.iconst 0, 1) := by decide +kernel
theorem zd_LA_law_499 : decode zc_LA_law 499 = .ok (.ireturn, 1) := by decide +kernel
theorem zd_LA_law_500 : decode zc_LA_law 500 = .ok (.iload 5, 2) := by decide +kernel
theorem zd_LA_law_502 : decode zc_LA_law 502 = .ok (.ifCond .ne 22, 3) := by decide +kernel
theorem zd_LA_law_505 : decode zc_LA_law 505 = .ok (.aload_n 3, 1) := by decide +kernel
theorem zd_LA_law_506 : decode zc_LA_law 506 = .ok (.iconst 0, 1) := by decide +kernel
theorem zd_LA_law_507 : decode zc_LA_law 507 = .ok (.laload, 1) := by decide +kernel
theorem zd_LA_law_508 : decode zc_LA_law 508 = .ok (.iload 6, 2) := by decide +kernel
theorem zd_LA_law_510 : decode zc_LA_law 510 = .ok (.ifCond .eq 7, 3) := by decide +kernel
theorem zd_LA_law_513 : decode zc_LA_law 513 = .ok (.lconst 1, 1) := by decide +kernel
theorem zd_LA_law_514 : decode zc_LA_law 514 = .ok (.goto 4, 3) := by decide +kernel
theorem zd_LA_law_517 : decode zc_LA_law 517 = .ok (.lconst 0, 1) := by decide +kernel
theorem zd_LA_law_518 : decode zc_LA_law 518 = .ok (.lcmp, 1) := by decide +kernel
theorem zd_LA_law_519 : decode zc_LA_law 519 = .ok (.ifCond .eq 5, 3) := by decide +kernel
theorem zd_LA_law_522 : decode zc_LA_law 522 = .ok (.iconst 0, 1) := by decide +kernel
theorem zd_LA_law_523 : decode zc_LA_law 523 = .ok (.ireturn, 1) := by decide +kernel
theorem zd_LA_law_524 : decode zc_LA_law 524 = .ok (.goto 575, 3) := by decide +kernel
theorem zd_LA_law_527 : decode zc_LA_law 527 = .ok (.aload_n 1, 1) := by decide +kernel
theorem zd_LA_law_528 : decode zc_LA_law 528 = .ok (.aload_n 0, 1) := by decide +kernel
theorem zd_LA_law_529 : decode zc_LA_law 529 = .ok (.iload 4, 2) := by decide +kernel
theorem zd_LA_law_531 : decode zc_LA_law 531 = .ok (.iconst 1, 1) := by decide +kernel
theorem zd_LA_law_532 : decode zc_LA_law 532 = .ok (.iadd, 1) := by decide +kernel
theorem zd_LA_law_533 : decode zc_LA_law 533 = .ok (.iaload, 1) := by decide +kernel
theorem zd_LA_law_534 : decode zc_LA_law 534 = .ok (.aload_n 0, 1) := by decide +kernel
theorem zd_LA_law_535 : decode zc_LA_law 535 = .ok (.iload 4, 2) := by decide +kernel
theorem zd_LA_law_537 : decode zc_LA_law 537 = .ok (.iconst 2, 1) := by decide +kernel
theorem zd_LA_law_538 : decode zc_LA_law 538 = .ok (.iadd, 1) := by decide +kernel
theorem zd_LA_law_539 : decode zc_LA_law 539 = .ok (.iaload, 1) := by decide +kernel
theorem zd_LA_law_540 : decode zc_LA_law 540 = .ok (.aload_n 3, 1) := by decide +kernel
theorem zd_LA_law_541 : decode zc_LA_law 541 = .ok (.invokestatic 99, 3) := by decide +kernel
theorem zd_LA_law_544 : decode zc_LA_law 544 = .ok (.istore 5, 2) := by decide +kernel
theorem zd_LA_law_546 : decode zc_LA_law 546 = .ok (.aload_n 2, 1) := by decide +kernel
theorem zd_LA_law_547 : decode zc_LA_law 547 = .ok (.aload_n 0, 1) := by decide +kernel
theorem zd_LA_law_548 : decode zc_LA_law 548 = .ok (.iload 4, 2) := by decide +kernel
theorem zd_LA_law_550 : decode zc_LA_law 550 = .ok (.iconst 1, 1) := by decide +kernel
theorem zd_LA_law_551 : decode zc_LA_law 551 = .ok (.iadd, 1) := by decide +kernel
theorem zd_LA_law_552 : decode zc_LA_law 552 = .ok (.iaload, 1) := by decide +kernel
theorem zd_LA_law_553 : decode zc_LA_law 553 = .ok (.aload_n 0, 1) := by decide +kernel
theorem zd_LA_law_554 : decode zc_LA_law 554 = .ok (.iload 4, 2) := by decide +kernel
theorem zd_LA_law_556 : decode zc_LA_law 556 = .ok (.iconst 2, 1) := by decide +kernel
theorem zd_LA_law_557 : decode zc_LA_law 557 = .ok (.iadd, 1) := by decide +kernel
theorem zd_LA_law_558 : decode zc_LA_law 558 = .ok (.iaload, 1) := by decide +kernel
theorem zd_LA_law_559 : decode zc_LA_law 559 = .ok (.invokevirtual 101, 3) := by decide +kernel
theorem zd_LA_law_562 : decode zc_LA_law 562 = .ok (.istore 6, 2) := by decide +kernel
theorem zd_LA_law_564 : decode zc_LA_law 564 = .ok (.aload_n 2, 1) := by decide +kernel
theorem zd_LA_law_565 : decode zc_LA_law 565 = .ok (.invokevirtual 75, 3) := by decide +kernel
theorem zd_LA_law_568 : decode zc_LA_law 568 = .ok (.iload 5, 2) := by decide +kernel
theorem zd_LA_law_570 : decode zc_LA_law 570 = .ok (.if_icmp .eq 5, 3) := by decide +kernel
theorem zd_LA_law_573 : decode zc_LA_law 573 = .ok (.iconst 0, 1) := by decide +kernel
theorem zd_LA_law_574 : decode zc_LA_law 574 = .ok (.ireturn, 1) := by decide +kernel
theorem zd_LA_law_575 : decode zc_LA_law 575 = .ok (.iload 5, 2) := by decide +kernel
theorem zd_LA_law_577 : decode zc_LA_law 577 = .ok (.ifCond .ne 15, 3) := by decide +kernel
theorem zd_LA_law_580 : decode zc_LA_law 580 = .ok (.aload_n 3, 1) := by decide +kernel
theorem zd_LA_law_581 : decode zc_LA_law 581 = .ok (.iconst 0, 1) := by decide +kernel
theorem zd_LA_law_582 : decode zc_LA_law 582 = .ok (.laload, 1) := by decide +kernel
theorem zd_LA_law_583 : decode zc_LA_law 583 = .ok (.iload 6, 2) := by decide +kernel
theorem zd_LA_law_585 : decode zc_LA_law 585 = .ok (.i2l, 1) := by decide +kernel
theorem zd_LA_law_586 : decode zc_LA_law 586 = .ok (.lcmp, 1) := by decide +kernel
theorem zd_LA_law_587 : decode zc_LA_law 587 = .ok (.ifCond .eq 5, 3) := by decide +kernel
theorem zd_LA_law_590 : decode zc_LA_law 590 = .ok (.iconst 0, 1) := by decide +kernel
theorem zd_LA_law_591 : decode zc_LA_law 591 = .ok (.ireturn, 1) := by decide +kernel
theorem zd_LA_law_592 : decode zc_LA_law 592 = .ok (.goto 507, 3) := by decide +kernel
theorem zd_LA_law_595 : decode zc_LA_law 595 = .ok (.aload_n 1, 1) := by decide +kernel
theorem zd_LA_law_596 : decode zc_LA_law 596 = .ok (.aload_n 0, 1) := by decide +kernel
theorem zd_LA_law_597 : decode zc_LA_law 597 = .ok (.iload 4, 2) := by decide +kernel
theorem zd_LA_law_599 : decode zc_LA_law 599 = .ok (.iconst 1, 1) := by decide +kernel
theorem zd_LA_law_600 : decode zc_LA_law 600 = .ok (.iadd, 1) := by decide +kernel
theorem zd_LA_law_601 : decode zc_LA_law 601 = .ok (.iaload, 1) := by decide +kernel
theorem zd_LA_law_602 : decode zc_LA_law 602 = .ok (.aload_n 0, 1) := by decide +kernel
theorem zd_LA_law_603 : decode zc_LA_law 603 = .ok (.iload 4, 2) := by decide +kernel
theorem zd_LA_law_605 : decode zc_LA_law 605 = .ok (.iconst 2, 1) := by decide +kernel
theorem zd_LA_law_606 : decode zc_LA_law 606 = .ok (.iadd, 1) := by decide +kernel
theorem zd_LA_law_607 : decode zc_LA_law 607 = .ok (.iaload, 1) := by decide +kernel
theorem zd_LA_law_608 : decode zc_LA_law 608 = .ok (.aload_n 3, 1) := by decide +kernel
theorem zd_LA_law_609 : decode zc_LA_law 609 = .ok (.invokestatic 102, 3) := by decide +kernel
theorem zd_LA_law_612 : decode zc_LA_law 612 = .ok (.istore 5, 2) := by decide +kernel
theorem zd_LA_law_614 : decode zc_LA_law 614 = .ok (.aload_n 2, 1) := by decide +kernel
theorem zd_LA_law_615 : decode zc_LA_law 615 = .ok (.aload_n 0, 1) := by decide +kernel
theorem zd_LA_law_616 : decode zc_LA_law 616 = .ok (.iload 4, 2) := by decide +kernel
theorem zd_LA_law_618 : decode zc_LA_law 618 = .ok (.iconst 1, 1) := by decide +kernel
theorem zd_LA_law_619 : decode zc_LA_law 619 = .ok (.iadd, 1) := by decide +kernel
theorem zd_LA_law_620 : decode zc_LA_law 620 = .ok (.iaload, 1) := by decide +kernel
theorem zd_LA_law_621 : decode zc_LA_law 621 = .ok (.aload_n 0, 1) := by decide +kernel
theorem zd_LA_law_622 : decode zc_LA_law 622 = .ok (.iload 4, 2) := by decide +kernel
theorem zd_LA_law_624 : decode zc_LA_law 624 = .ok (.iconst 2, 1) := by decide +kernel
theorem zd_LA_law_625 : decode zc_LA_law 625 = .ok (.iadd, 1) := by decide +kernel
theorem zd_LA_law_626 : decode zc_LA_law 626 = .ok (.iaload, 1) := by decide +kernel
theorem zd_LA_law_627 : decode zc_LA_law 627 = .ok (.invokevirtual 104, 3) := by decide +kernel
theorem zd_LA_law_630 : decode zc_LA_law 630 = .ok (.istore 6, 2) := by decide +kernel
theorem zd_LA_law_632 : decode zc_LA_law 632 = .ok (.aload_n 2, 1) := by decide +kernel
theorem zd_LA_law_633 : decode zc_LA_law 633 = .ok (.invokevirtual 75, 3) := by decide +kernel
theorem zd_LA_law_636 : decode zc_LA_law 636 = .ok (.iload 5, 2) := by decide +kernel
theorem zd_LA_law_638 : decode zc_LA_law 638 = .ok (.if_icmp .eq 5, 3) := by decide +kernel
theorem zd_LA_law_641 : decode zc_LA_law 641 = .ok (.iconst 0, 1) := by decide +kernel
theorem zd_LA_law_642 : decode zc_LA_law 642 = .ok (.ireturn, 1) := by decide +kernel
theorem zd_LA_law_643 : decode zc_LA_law 643 = .ok (.iload 5, 2) := by decide +kernel
theorem zd_LA_law_645 : decode zc_LA_law 645 = .ok (.ifCond .ne 15, 3) := by decide +kernel
theorem zd_LA_law_648 : decode zc_LA_law 648 = .ok (.aload_n 3, 1) := by decide +kernel
theorem zd_LA_law_649 : decode zc_LA_law 649 = .ok (.iconst 0, 1) := by decide +kernel
theorem zd_LA_law_650 : decode zc_LA_law 650 = .ok (.laload, 1) := by decide +kernel
theorem zd_LA_law_651 : decode zc_LA_law 651 = .ok (.iload 6, 2) := by decide +kernel
theorem zd_LA_law_653 : decode zc_LA_law 653 = .ok (.i2l, 1) := by decide +kernel
theorem zd_LA_law_654 : decode zc_LA_law 654 = .ok (.lcmp, 1) := by decide +kernel
theorem zd_LA_law_655 : decode zc_LA_law 655 = .ok (.ifCond .eq 5, 3) := by decide +kernel
theorem zd_LA_law_658 : decode zc_LA_law 658 = .ok (.iconst 0, 1) := by decide +kernel
theorem zd_LA_law_659 : decode zc_LA_law 659 = .ok (.ireturn, 1) := by decide +kernel
theorem zd_LA_law_660 : decode zc_LA_law 660 = .ok (.goto 439, 3) := by decide +kernel
theorem zd_LA_law_663 : decode zc_LA_law 663 = .ok (.aload_n 1, 1) := by decide +kernel
theorem zd_LA_law_664 : decode zc_LA_law 664 = .ok (.invokevirtual 105, 3) := by decide +kernel
theorem zd_LA_law_667 : decode zc_LA_law 667 = .ok (.aload_n 2, 1) := by decide +kernel
theorem zd_LA_law_668 : decode zc_LA_law 668 = .ok (.invokevirtual 108, 3) := by decide +kernel
theorem zd_LA_law_671 : decode zc_LA_law 671 = .ok (.if_icmp .eq 428, 3) := by decide +kernel
theorem zd_LA_law_674 : decode zc_LA_law 674 = .ok (.iconst 0, 1) := by decide +kernel
theorem zd_LA_law_675 : decode zc_LA_law 675 = .ok (.ireturn, 1) := by decide +kernel
theorem zd_LA_law_676 : decode zc_LA_law 676 = .ok (.aload_n 1, 1) := by decide +kernel
theorem zd_LA_law_677 : decode zc_LA_law 677 = .ok (.aload_n 0, 1) := by decide +kernel
theorem zd_LA_law_678 : decode zc_LA_law 678 = .ok (.iload 4, 2) := by decide +kernel
theorem zd_LA_law_680 : decode zc_LA_law 680 = .ok (.iconst 1, 1) := by decide +kernel
theorem zd_LA_law_681 : decode zc_LA_law 681 = .ok (.iadd, 1) := by decide +kernel
theorem zd_LA_law_682 : decode zc_LA_law 682 = .ok (.iaload, 1) := by decide +kernel
theorem zd_LA_law_683 : decode zc_LA_law 683 = .ok (.invokestatic 109, 3) := by decide +kernel
theorem zd_LA_law_686 : decode zc_LA_law 686 = .ok (.istore 5, 2) := by decide +kernel
theorem zd_LA_law_688 : decode zc_LA_law 688 = .ok (.aload_n 2, 1) := by decide +kernel
theorem zd_LA_law_689 : decode zc_LA_law 689 = .ok (.aload_n 0, 1) := by decide +kernel
theorem zd_LA_law_690 : decode zc_LA_law 690 = .ok (.iload 4, 2) := by decide +kernel
theorem zd_LA_law_692 : decode zc_LA_law 692 = .ok (.iconst 1, 1) := by decide +kernel
theorem zd_LA_law_693 : decode zc_LA_law 693 = .ok (.iadd, 1) := by decide +kernel
theorem zd_LA_law_694 : decode zc_LA_law 694 = .ok (.iaload, 1) := by decide +kernel
theorem zd_LA_law_695 : decode zc_LA_law 695 = .ok (.invokevirtual 111, 3) := by decide +kernel
theorem zd_LA_law_698 : decode zc_LA_law 698 = .ok (.aload_n 2, 1) := by decide +kernel
theorem zd_LA_law_699 : decode zc_LA_law 699 = .ok (.invokevirtual 75, 3) := by decide +kernel
theorem zd_LA_law_702 : decode zc_LA_law 702 = .ok (.iload 5, 2) := by decide +kernel
theorem zd_LA_law_704 : decode zc_LA_law 704 = .ok (.if_icmp .eq 5, 3) := by decide +kernel
theorem zd_LA_law_707 : decode zc_LA_law 707 = .ok (.iconst 0, 1) := by decide +kernel
theorem zd_LA_law_708 : decode zc_LA_law 708 = .ok (.ireturn, 1) := by decide +kernel
theorem zd_LA_law_709 : decode zc_LA_law 709 = .ok (.goto 390, 3) := by decide +kernel
theorem zd_LA_law_712 : decode zc_LA_law 712 = .ok (.aload_n 1, 1) := by decide +kernel
theorem zd_LA_law_713 : decode zc_LA_law 713 = .ok (.aload_n 0, 1) := by decide +kernel
theorem zd_LA_law_714 : decode zc_LA_law 714 = .ok (.iload 4, 2) := by decide +kernel
theorem zd_LA_law_716 : decode zc_LA_law 716 = .ok (.iconst 1, 1) := by decide +kernel
theorem zd_LA_law_717 : decode zc_LA_law 717 = .ok (.iadd, 1) := by decide +kernel
theorem zd_LA_law_718 : decode zc_LA_law 718 = .ok (.iaload, 1) := by decide +kernel
theorem zd_LA_law_719 : decode zc_LA_law 719 = .ok (.aload_n 0, 1) := by decide +kernel
theorem zd_LA_law_720 : decode zc_LA_law 720 = .ok (.iload 4, 2) := by decide +kernel
theorem zd_LA_law_722 : decode zc_LA_law 722 = .ok (.iconst 2, 1) := by decide +kernel
theorem zd_LA_law_723 : decode zc_LA_law 723 = .ok (.iadd, 1) := by decide +kernel
theorem zd_LA_law_724 : decode zc_LA_law 724 = .ok (.iaload, 1) := by decide +kernel
theorem zd_LA_law_725 : decode zc_LA_law 725 = .ok (.aload_n 3, 1) := by decide +kernel
theorem zd_LA_law_726 : decode zc_LA_law 726 = .ok (.invokestatic 112, 3) := by decide +kernel
theorem zd_LA_law_729 : decode zc_LA_law 729 = .ok (.istore 5, 2) := by decide +kernel
theorem zd_LA_law_731 : decode zc_LA_law 731 = .ok (.aload_n 2, 1) := by decide +kernel
theorem zd_LA_law_732 : decode zc_LA_law 732 = .ok (.aload_n 0, 1) := by decide +kernel
theorem zd_LA_law_733 : decode zc_LA_law 733 = .ok (.iload 4, 2) := by decide +kernel
theorem zd_LA_law_735 : decode zc_LA_law 735 = .ok (.iconst 1, 1) := by decide +kernel
theorem zd_LA_law_736 : decode zc_LA_law 736 = .ok (.iadd, 1) := by decide +kernel
theorem zd_LA_law_737 : decode zc_LA_law 737 = .ok (.iaload, 1) := by decide +kernel
theorem zd_LA_law_738 : decode zc_LA_law 738 = .ok (.aload_n 0, 1) := by decide +kernel
theorem zd_LA_law_739 : decode zc_LA_law 739 = .ok (.iload 4, 2) := by decide +kernel
theorem zd_LA_law_741 : decode zc_LA_law 741 = .ok (.iconst 2, 1) := by decide +kernel
theorem zd_LA_law_742 : decode zc_LA_law 742 = .ok (.iadd, 1) := by decide +kernel
theorem zd_LA_law_743 : decode zc_LA_law 743 = .ok (.iaload, 1) := by decide +kernel
theorem zd_LA_law_744 : decode zc_LA_law 744 = .ok (.invokevirtual 114, 3) := by decide +kernel
theorem zd_LA_law_747 : decode zc_LA_law 747 = .ok (.istore 6, 2) := by decide +kernel
theorem zd_LA_law_749 : decode zc_LA_law 749 = .ok (.aload_n 2, 1) := by decide +kernel
theorem zd_LA_law_750 : decode zc_LA_law 750 = .ok (.invokevirtual 75, 3) := by decide +kernel
theorem zd_LA_law_753 : decode zc_LA_law 753 = .ok (.iload 5, 2) := by decide +kernel
theorem zd_LA_law_755 : decode zc_LA_law 755 = .ok (.if_icmp .eq 5, 3) := by decide +kernel
theorem zd_LA_law_758 : decode zc_LA_law 758 = .ok (.iconst 0, 1) := by decide +kernel
theorem zd_LA_law_759 : decode zc_LA_law 759 = .ok (.ireturn, 1) := by decide +kernel
theorem zd_LA_law_760 : decode zc_LA_law 760 = .ok (.iload 5, 2) := by decide +kernel
theorem zd_LA_law_762 : decode zc_LA_law 762 = .ok (.ifCond .ne 15, 3) := by decide +kernel
theorem zd_LA_law_765 : decode zc_LA_law 765 = .ok (.aload_n 3, 1) := by decide +kernel
theorem zd_LA_law_766 : decode zc_LA_law 766 = .ok (.iconst 0, 1) := by decide +kernel
theorem zd_LA_law_767 : decode zc_LA_law 767 = .ok (.laload, 1) := by decide +kernel
theorem zd_LA_law_768 : decode zc_LA_law 768 = .ok (.iload 6, 2) := by decide +kernel
theorem zd_LA_law_770 : decode zc_LA_law 770 = .ok (.i2l, 1) := by decide +kernel
theorem zd_LA_law_771 : decode zc_LA_law 771 = .ok (.lcmp, 1) := by decide +kernel
theorem zd_LA_law_772 : decode zc_LA_law 772 = .ok (.ifCond .eq 5, 3) := by decide +kernel
theorem zd_LA_law_775 : decode zc_LA_law 775 = .ok (.iconst 0, 1) := by decide +kernel
theorem zd_LA_law_776 : decode zc_LA_law 776 = .ok (.ireturn, 1) := by decide +kernel
theorem zd_LA_law_777 : decode zc_LA_law 777 = .ok (.goto 322, 3) := by decide +kernel
theorem zd_LA_law_780 : decode zc_LA_law 780 = .ok (.aload_n 1, 1) := by decide +kernel
theorem zd_LA_law_781 : decode zc_LA_law 781 = .ok (.aload_n 0, 1) := by decide +kernel
theorem zd_LA_law_782 : decode zc_LA_law 782 = .ok (.iload 4, 2) := by decide +kernel
theorem zd_LA_law_784 : decode zc_LA_law 784 = .ok (.iconst 1, 1) := by decide +kernel
theorem zd_LA_law_785 : decode zc_LA_law 785 = .ok (.iadd, 1) := by decide +kernel
theorem zd_LA_law_786 : decode zc_LA_law 786 = .ok (.iaload, 1) := by decide +kernel
theorem zd_LA_law_787 : decode zc_LA_law 787 = .ok (.invokestatic 115, 3) := by decide +kernel
theorem zd_LA_law_790 : decode zc_LA_law 790 = .ok (.istore 5, 2) := by decide +kernel
theorem zd_LA_law_792 : decode zc_LA_law 792 = .ok (.aload_n 2, 1) := by decide +kernel
theorem zd_LA_law_793 : decode zc_LA_law 793 = .ok (.aload_n 0, 1) := by decide +kernel
theorem zd_LA_law_794 : decode zc_LA_law 794 = .ok (.iload 4, 2) := by decide +kernel
theorem zd_LA_law_796 : decode zc_LA_law 796 = .ok (.iconst 1, 1) := by decide +kernel
theorem zd_LA_law_797 : decode zc_LA_law 797 = .ok (.iadd, 1) := by decide +kernel
theorem zd_LA_law_798 : decode zc_LA_law 798 = .ok (.iaload, 1) := by decide +kernel
theorem zd_LA_law_799 : decode zc_LA_law 799 = .ok (.invokevirtual 117, 3) := by decide +kernel
theorem zd_LA_law_802 : decode zc_LA_law 802 = .ok (.aload_n 2, 1) := by decide +kernel
theorem zd_LA_law_803 : decode zc_LA_law 803 = .ok (.invokevirtual 75, 3) := by decide +kernel
theorem zd_LA_law_806 : decode zc_LA_law 806 = .ok (.iload 5, 2) := by decide +kernel
theorem zd_LA_law_808 : decode zc_LA_law 808 = .ok (.if_icmp .eq 5, 3) := by decide +kernel
theorem zd_LA_law_811 : decode zc_LA_law 811 = .ok (.iconst 0, 1) := by decide +kernel
theorem zd_LA_law_812 : decode zc_LA_law 812 = .ok (.ireturn, 1) := by decide +kernel
theorem zd_LA_law_813 : decode zc_LA_law 813 = .ok (.goto 286, 3) := by decide +kernel
theorem zd_LA_law_816 : decode zc_LA_law 816 = .ok (.aload_n 1, 1) := by decide +kernel
theorem zd_LA_law_817 : decode zc_LA_law 817 = .ok (.invokevirtual 118, 3) := by decide +kernel
theorem zd_LA_law_820 : decode zc_LA_law 820 = .ok (.aload_n 2, 1) := by decide +kernel
theorem zd_LA_law_821 : decode zc_LA_law 821 = .ok (.invokevirtual 122, 3) := by decide +kernel
theorem zd_LA_law_824 : decode zc_LA_law 824 = .ok (.if_icmp .eq 275, 3) := by decide +kernel
theorem zd_LA_law_827 : decode zc_LA_law 827 = .ok (.iconst 0, 1) := by decide +kernel
theorem zd_LA_law_828 : decode zc_LA_law 828 = .ok (.ireturn, 1) := by decide +kernel
theorem zd_LA_law_829 : decode zc_LA_law 829 = .ok (.aload_n 1, 1) := by decide +kernel
theorem zd_LA_law_830 : decode zc_LA_law 830 = .ok (.aload_n 0, 1) := by decide +kernel
theorem zd_LA_law_831 : decode zc_LA_law 831 = .ok (.iload 4, 2) := by decide +kernel
theorem zd_LA_law_833 : decode zc_LA_law 833 = .ok (.iconst 1, 1) := by decide +kernel
theorem zd_LA_law_834 : decode zc_LA_law 834 = .ok (.iadd, 1) := by decide +kernel
theorem zd_LA_law_835 : decode zc_LA_law 835 = .ok (.iaload, 1) := by decide +kernel
theorem zd_LA_law_836 : decode zc_LA_law 836 = .ok (.aload_n 3, 1) := by decide +kernel
theorem zd_LA_law_837 : decode zc_LA_law 837 = .ok (.invokestatic 123, 3) := by decide +kernel
theorem zd_LA_law_840 : decode zc_LA_law 840 = .ok (.istore 5, 2) := by decide +kernel
theorem zd_LA_law_842 : decode zc_LA_law 842 = .ok (.aload_n 2, 1) := by decide +kernel
theorem zd_LA_law_843 : decode zc_LA_law 843 = .ok (.aload_n 0, 1) := by decide +kernel
theorem zd_LA_law_844 : decode zc_LA_law 844 = .ok (.iload 4, 2) := by decide +kernel
theorem zd_LA_law_846 : decode zc_LA_law 846 = .ok (.iconst 1, 1) := by decide +kernel
theorem zd_LA_law_847 : decode zc_LA_law 847 = .ok (.iadd, 1) := by decide +kernel
theorem zd_LA_law_848 : decode zc_LA_law 848 = .ok (.iaload, 1) := by decide +kernel
theorem zd_LA_law_849 : decode zc_LA_law 849 = .ok (.invokevirtual 125, 3) := by decide +kernel
theorem zd_LA_law_852 : decode zc_LA_law 852 = .ok (.istore 6, 2) := by decide +kernel
theorem zd_LA_law_854 : decode zc_LA_law 854 = .ok (.aload_n 2, 1) := by decide +kernel
theorem zd_LA_law_855 : decode zc_LA_law 855 = .ok (.invokevirtual 75, 3) := by decide +kernel
theorem zd_LA_law_858 : decode zc_LA_law 858 = .ok (.iload 5, 2) := by decide +kernel
theorem zd_LA_law_860 : decode zc_LA_law 860 = .ok (.if_icmp .eq 5, 3) := by decide +kernel
theorem zd_LA_law_863 : decode zc_LA_law 863 = .ok (.iconst 0, 1) := by decide +kernel
theorem zd_LA_law_864 : decode zc_LA_law 864 = .ok (.ireturn, 1) := by decide +kernel
theorem zd_LA_law_865 : decode zc_LA_law 865 = .ok (.iload 5, 2) := by decide +kernel
theorem zd_LA_law_867 : decode zc_LA_law 867 = .ok (.ifCond .ne 15, 3) := by decide +kernel
theorem zd_LA_law_870 : decode zc_LA_law 870 = .ok (.aload_n 3, 1) := by decide +kernel
theorem zd_LA_law_871 : decode zc_LA_law 871 = .ok (.iconst 0, 1) := by decide +kernel
theorem zd_LA_law_872 : decode zc_LA_law 872 = .ok (.laload, 1) := by decide +kernel
theorem zd_LA_law_873 : decode zc_LA_law 873 = .ok (.iload 6, 2) := by decide +kernel
theorem zd_LA_law_875 : decode zc_LA_law 875 = .ok (.i2l, 1) := by decide +kernel
theorem zd_LA_law_876 : decode zc_LA_law 876 = .ok (.lcmp, 1) := by decide +kernel
theorem zd_LA_law_877 : decode zc_LA_law 877 = .ok (.ifCond .eq 5, 3) := by decide +kernel
theorem zd_LA_law_880 : decode zc_LA_law 880 = .ok (.iconst 0, 1) := by decide +kernel
theorem zd_LA_law_881 : decode zc_LA_law 881 = .ok (.ireturn, 1) := by decide +kernel
theorem zd_LA_law_882 : decode zc_LA_law 882 = .ok (.goto 217, 3) := by decide +kernel
theorem zd_LA_law_885 : decode zc_LA_law 885 = .ok (.aload_n 1, 1) := by decide +kernel
theorem zd_LA_law_886 : decode zc_LA_law 886 = .ok (.aload_n 0, 1) := by decide +kernel
theorem zd_LA_law_887 : decode zc_LA_law 887 = .ok (.iload 4, 2) := by decide +kernel
theorem zd_LA_law_889 : decode zc_LA_law 889 = .ok (.iconst 1, 1) := by decide +kernel
theorem zd_LA_law_890 : decode zc_LA_law 890 = .ok (.iadd, 1) := by decide +kernel
theorem zd_LA_law_891 : decode zc_LA_law 891 = .ok (.iaload, 1) := by decide +kernel
theorem zd_LA_law_892 : decode zc_LA_law 892 = .ok (.aload_n 3, 1) := by decide +kernel
theorem zd_LA_law_893 : decode zc_LA_law 893 = .ok (.invokestatic 126, 3) := by decide +kernel
theorem zd_LA_law_896 : decode zc_LA_law 896 = .ok (.istore 5, 2) := by decide +kernel
theorem zd_LA_law_898 : decode zc_LA_law 898 = .ok (.aload_n 2, 1) := by decide +kernel
theorem zd_LA_law_899 : decode zc_LA_law 899 = .ok (.aload_n 0, 1) := by decide +kernel
theorem zd_LA_law_900 : decode zc_LA_law 900 = .ok (.iload 4, 2) := by decide +kernel
theorem zd_LA_law_902 : decode zc_LA_law 902 = .ok (.iconst 1, 1) := by decide +kernel
theorem zd_LA_law_903 : decode zc_LA_law 903 = .ok (.iadd, 1) := by decide +kernel
theorem zd_LA_law_904 : decode zc_LA_law 904 = .ok (.iaload, 1) := by decide +kernel
theorem zd_LA_law_905 : decode zc_LA_law 905 = .ok (.invokevirtual 128, 3) := by decide +kernel
theorem zd_LA_law_908 : decode zc_LA_law 908 = .ok (.istore 6, 2) := by decide +kernel
theorem zd_LA_law_910 : decode zc_LA_law 910 = .ok (.aload_n 2, 1) := by decide +kernel
theorem zd_LA_law_911 : decode zc_LA_law 911 = .ok (.invokevirtual 75, 3) := by decide +kernel
theorem zd_LA_law_914 : decode zc_LA_law 914 = .ok (.iload 5, 2) := by decide +kernel
theorem zd_LA_law_916 : decode zc_LA_law 916 = .ok (.if_icmp .eq 5, 3) := by decide +kernel
theorem zd_LA_law_919 : decode zc_LA_law 919 = .ok (.iconst 0, 1) := by decide +kernel
theorem zd_LA_law_920 : decode zc_LA_law 920 = .ok (.ireturn, 1) := by decide +kernel
theorem zd_LA_law_921 : decode zc_LA_law 921 = .ok (.iload 5, 2) := by decide +kernel
theorem zd_LA_law_923 : decode zc_LA_law 923 = .ok (.ifCond .ne 15, 3) := by decide +kernel
theorem zd_LA_law_926 : decode zc_LA_law 926 = .ok (.aload_n 3, 1) := by decide +kernel
theorem zd_LA_law_927 : decode zc_LA_law 927 = .ok (.iconst 0, 1) := by decide +kernel
theorem zd_LA_law_928 : decode zc_LA_law 928 = .ok (.laload, 1) := by decide +kernel
theorem zd_LA_law_929 : decode zc_LA_law 929 = .ok (.iload 6, 2) := by decide +kernel
theorem zd_LA_law_931 : decode zc_LA_law 931 = .ok (.i2l, 1) := by decide +kernel
theorem zd_LA_law_932 : decode zc_LA_law 932 = .ok (.lcmp, 1) := by decide +kernel
theorem zd_LA_law_933 : decode zc_LA_law 933 = .ok (.ifCond .eq 5, 3) := by decide +kernel
theorem zd_LA_law_936 : decode zc_LA_law 936 = .ok (.iconst 0, 1) := by decide +kernel
theorem zd_LA_law_937 : decode zc_LA_law 937 = .ok (.ireturn, 1) := by decide +kernel
theorem zd_LA_law_938 : decode zc_LA_law 938 = .ok (.goto 161, 3) := by decide +kernel
theorem zd_LA_law_941 : decode zc_LA_law 941 = .ok (.aload_n 1, 1) := by decide +kernel
theorem zd_LA_law_942 : decode zc_LA_law 942 = .ok (.aload_n 0, 1) := by decide +kernel
theorem zd_LA_law_943 : decode zc_LA_law 943 = .ok (.iload 4, 2) := by decide +kernel
theorem zd_LA_law_945 : decode zc_LA_law 945 = .ok (.iconst 1, 1) := by decide +kernel
theorem zd_LA_law_946 : decode zc_LA_law 946 = .ok (.iadd, 1) := by decide +kernel
theorem zd_LA_law_947 : decode zc_LA_law 947 = .ok (.iaload, 1) := by decide +kernel
theorem zd_LA_law_948 : decode zc_LA_law 948 = .ok (.aload_n 0, 1) := by decide +kernel
theorem zd_LA_law_949 : decode zc_LA_law 949 = .ok (.iload 4, 2) := by decide +kernel
theorem zd_LA_law_951 : decode zc_LA_law 951 = .ok (.iconst 2, 1) := by decide +kernel
theorem zd_LA_law_952 : decode zc_LA_law 952 = .ok (.iadd, 1) := by decide +kernel
theorem zd_LA_law_953 : decode zc_LA_law 953 = .ok (.iaload, 1) := by decide +kernel
theorem zd_LA_law_954 : decode zc_LA_law 954 = .ok (.aload_n 3, 1) := by decide +kernel
theorem zd_LA_law_955 : decode zc_LA_law 955 = .ok (.invokestatic 129, 3) := by decide +kernel
theorem zd_LA_law_958 : decode zc_LA_law 958 = .ok (.istore 5, 2) := by decide +kernel
theorem zd_LA_law_960 : decode zc_LA_law 960 = .ok (.aload_n 2, 1) := by decide +kernel
theorem zd_LA_law_961 : decode zc_LA_law 961 = .ok (.aload_n 0, 1) := by decide +kernel
theorem zd_LA_law_962 : decode zc_LA_law 962 = .ok (.iload 4, 2) := by decide +kernel
theorem zd_LA_law_964 : decode zc_LA_law 964 = .ok (.iconst 1, 1) := by decide +kernel
theorem zd_LA_law_965 : decode zc_LA_law 965 = .ok (.iadd, 1) := by decide +kernel
theorem zd_LA_law_966 : decode zc_LA_law 966 = .ok (.iaload, 1) := by decide +kernel
theorem zd_LA_law_967 : decode zc_LA_law 967 = .ok (.aload_n 0, 1) := by decide +kernel
theorem zd_LA_law_968 : decode zc_LA_law 968 = .ok (.iload 4, 2) := by decide +kernel
theorem zd_LA_law_970 : decode zc_LA_law 970 = .ok (.iconst 2, 1) := by decide +kernel
theorem zd_LA_law_971 : decode zc_LA_law 971 = .ok (.iadd, 1) := by decide +kernel
theorem zd_LA_law_972 : decode zc_LA_law 972 = .ok (.iaload, 1) := by decide +kernel
theorem zd_LA_law_973 : decode zc_LA_law 973 = .ok (.invokevirtual 131, 3) := by decide +kernel
theorem zd_LA_law_976 : decode zc_LA_law 976 = .ok (.istore 6, 2) := by decide +kernel
theorem zd_LA_law_978 : decode zc_LA_law 978 = .ok (.aload_n 2, 1) := by decide +kernel
theorem zd_LA_law_979 : decode zc_LA_law 979 = .ok (.invokevirtual 75, 3) := by decide +kernel
theorem zd_LA_law_982 : decode zc_LA_law 982 = .ok (.iload 5, 2) := by decide +kernel
theorem zd_LA_law_984 : decode zc_LA_law 984 = .ok (.if_icmp .eq 5, 3) := by decide +kernel
theorem zd_LA_law_987 : decode zc_LA_law 987 = .ok (.iconst 0, 1) := by decide +kernel
theorem zd_LA_law_988 : decode zc_LA_law 988 = .ok (.ireturn, 1) := by decide +kernel
theorem zd_LA_law_989 : decode zc_LA_law 989 = .ok (.iload 5, 2) := by decide +kernel
theorem zd_LA_law_991 : decode zc_LA_law 991 = .ok (.ifCond .ne 22, 3) := by decide +kernel
theorem zd_LA_law_994 : decode zc_LA_law 994 = .ok (.aload_n 3, 1) := by decide +kernel
theorem zd_LA_law_995 : decode zc_LA_law 995 = .ok (.iconst 0, 1) := by decide +kernel
theorem zd_LA_law_996 : decode zc_LA_law 996 = .ok (.laload, 1) := by decide +kernel
theorem zd_LA_law_997 : decode zc_LA_law 997 = .ok (.iload 6, 2) := by decide +kernel
theorem zd_LA_law_999 : decode zc_LA_law 999 = .ok (.ifCond .eq 7, 3) := by decide +kernel
theorem zd_LA_law_1002 : decode zc_LA_law 1002 = .ok (.lconst 1, 1) := by decide +kernel
theorem zd_LA_law_1003 : decode zc_LA_law 1003 = .ok (.goto 4, 3) := by decide +kernel
theorem zd_LA_law_1006 : decode zc_LA_law 1006 = .ok (.lconst 0, 1) := by decide +kernel
theorem zd_LA_law_1007 : decode zc_LA_law 1007 = .ok (.lcmp, 1) := by decide +kernel
theorem zd_LA_law_1008 : decode zc_LA_law 1008 = .ok (.ifCond .eq 5, 3) := by decide +kernel
theorem zd_LA_law_1011 : decode zc_LA_law 1011 = .ok (.iconst 0, 1) := by decide +kernel
theorem zd_LA_law_1012 : decode zc_LA_law 1012 = .ok (.ireturn, 1) := by decide +kernel
theorem zd_LA_law_1013 : decode zc_LA_law 1013 = .ok (.goto 86, 3) := by decide +kernel
theorem zd_LA_law_1016 : decode zc_LA_law 1016 = .ok (.aload_n 1, 1) := by decide +kernel
theorem zd_LA_law_1017 : decode zc_LA_law 1017 = .ok (.invokevirtual 132, 3) := by decide +kernel
theorem zd_LA_law_1020 : decode zc_LA_law 1020 = .ok (.aload_n 2, 1) := by decide +kernel
theorem zd_LA_law_1021 : decode zc_LA_law 1021 = .ok (.invokevirtual 135, 3) := by decide +kernel
theorem zd_LA_law_1024 : decode zc_LA_law 1024 = .ok (.if_icmp .eq 75, 3) := by decide +kernel
theorem zd_LA_law_1027 : decode zc_LA_law 1027 = .ok (.iconst 0, 1) := by decide +kernel
theorem zd_LA_law_1028 : decode zc_LA_law 1028 = .ok (.ireturn, 1) := by decide +kernel
theorem zd_LA_law_1029 : decode zc_LA_law 1029 = .ok (.aload_n 1, 1) := by decide +kernel
theorem zd_LA_law_1030 : decode zc_LA_law 1030 = .ok (.invokevirtual 136, 3) := by decide +kernel
theorem zd_LA_law_1033 : decode zc_LA_law 1033 = .ok (.aload_n 2, 1) := by decide +kernel
theorem zd_LA_law_1034 : decode zc_LA_law 1034 = .ok (.invokevirtual 139, 3) := by decide +kernel
theorem zd_LA_law_1037 : decode zc_LA_law 1037 = .ok (.if_icmp .eq 62, 3) := by decide +kernel
theorem zd_LA_law_1040 : decode zc_LA_law 1040 = .ok (.iconst 0, 1) := by decide +kernel
theorem zd_LA_law_1041 : decode zc_LA_law 1041 = .ok (.ireturn, 1) := by decide +kernel
theorem zd_LA_law_1042 : decode zc_LA_law 1042 = .ok (.aload_n 1, 1) := by decide +kernel
theorem zd_LA_law_1043 : decode zc_LA_law 1043 = .ok (.invokevirtual 140, 3) := by decide +kernel
theorem zd_LA_law_1046 : decode zc_LA_law 1046 = .ok (.aload_n 2, 1) := by decide +kernel
theorem zd_LA_law_1047 : decode zc_LA_law 1047 = .ok (.invokevirtual 143, 3) := by decide +kernel
theorem zd_LA_law_1050 : decode zc_LA_law 1050 = .ok (.if_icmp .eq 49, 3) := by decide +kernel
theorem zd_LA_law_1053 : decode zc_LA_law 1053 = .ok (.iconst 0, 1) := by decide +kernel
theorem zd_LA_law_1054 : decode zc_LA_law 1054 = .ok (.ireturn, 1) := by decide +kernel
theorem zd_LA_law_1055 : decode zc_LA_law 1055 = .ok (.aload_n 1, 1) := by decide +kernel
theorem zd_LA_law_1056 : decode zc_LA_law 1056 = .ok (.aload_n 3, 1) := by decide +kernel
theorem zd_LA_law_1057 : decode zc_LA_law 1057 = .ok (.invokestatic 144, 3) := by decide +kernel
theorem zd_LA_law_1060 : decode zc_LA_law 1060 = .ok (.istore 5, 2) := by decide +kernel
theorem zd_LA_law_1062 : decode zc_LA_law 1062 = .ok (.aload_n 2, 1) := by decide +kernel
theorem zd_LA_law_1063 : decode zc_LA_law 1063 = .ok (.invokevirtual 147, 3) := by decide +kernel
theorem zd_LA_law_1066 : decode zc_LA_law 1066 = .ok (.istore 6, 2) := by decide +kernel
theorem zd_LA_law_1068 : decode zc_LA_law 1068 = .ok (.aload_n 2, 1) := by decide +kernel
theorem zd_LA_law_1069 : decode zc_LA_law 1069 = .ok (.invokevirtual 75, 3) := by decide +kernel
theorem zd_LA_law_1072 : decode zc_LA_law 1072 = .ok (.iload 5, 2) := by decide +kernel
theorem zd_LA_law_1074 : decode zc_LA_law 1074 = .ok (.if_icmp .eq 5, 3) := by decide +kernel
theorem zd_LA_law_1077 : decode zc_LA_law 1077 = .ok (.iconst 0, 1) := by decide +kernel
theorem zd_LA_law_1078 : decode zc_LA_law 1078 = .ok (.ireturn, 1) := by decide +kernel
theorem zd_LA_law_1079 : decode zc_LA_law 1079 = .ok (.iload 5, 2) := by decide +kernel
theorem zd_LA_law_1081 : decode zc_LA_law 1081 = .ok (.ifCond .ne 15, 3) := by decide +kernel
theorem zd_LA_law_1084 : decode zc_LA_law 1084 = .ok (.aload_n 3, 1) := by decide +kernel
theorem zd_LA_law_1085 : decode zc_LA_law 1085 = .ok (.iconst 0, 1) := by decide +kernel
theorem zd_LA_law_1086 : decode zc_LA_law 1086 = .ok (.laload, 1) := by decide +kernel
theorem zd_LA_law_1087 : decode zc_LA_law 1087 = .ok (.iload 6, 2) := by decide +kernel
theorem zd_LA_law_1089 : decode zc_LA_law 1089 = .ok (.i2l, 1) := by decide +kernel
theorem zd_LA_law_1090 : decode zc_LA_law 1090 = .ok (.lcmp, 1) := by decide +kernel
theorem zd_LA_law_1091 : decode zc_LA_law 1091 = .ok (.ifCond .eq 5, 3) := by decide +kernel
theorem zd_LA_law_1094 : decode zc_LA_law 1094 = .ok (.iconst 0, 1) := by decide +kernel
theorem zd_LA_law_1095 : decode zc_LA_law 1095 = .ok (.ireturn, 1) := by decide +kernel
theorem zd_LA_law_1096 : decode zc_LA_law 1096 = .ok (.goto 3, 3) := by decide +kernel
theorem zd_LA_law_1099 : decode zc_LA_law 1099 = .ok (.iinc 4 3, 3) := by decide +kernel
theorem zd_LA_law_1102 : decode zc_LA_law 1102 = .ok (.goto (-1079), 3) := by decide +kernel
theorem zd_LA_law_1105 : decode zc_LA_law 1105 = .ok (.iconst 1, 1) := by decide +kernel
theorem zd_LA_law_1106 : decode zc_LA_law 1106 = .ok (.ireturn, 1) := by decide +kernel
