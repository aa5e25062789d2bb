theorem zd_CG_init_0 : decode zc_CG_init 0 = .ok (.aload_n 0, 1) := by decide +kernel
theorem zd_CG_init_1 : decode zc_CG_init 1 = .ok (.invokespecial 1, 3) := by decide +kernel
theorem zd_CG_init_4 : decode zc_CG_init 4 = .ok (.aload_n 0, 1) := by decide +kernel
theorem zd_CG_init_5 : decode zc_CG_init 5 = .ok (.new 7, 3) := by decide +kernel
theorem zd_CG_init_8 : decode zc_CG_init 8 = .ok (.dup, 1) := by decide +kernel
theorem zd_CG_init_9 : decode zc_CG_init 9 = .ok (.invokespecial 9, 3) := by decide +kernel
theorem zd_CG_init_12 : decode zc_CG_init 12 = .ok (.putfield 10, 3) := by decide +kernel
theorem zd_CG_init_15 : decode zc_CG_init 15 = .ok (.aload_n 0, 1) := by decide +kernel
theorem zd_CG_init_16 : decode zc_CG_init 16 = .ok (.aload_n 0, 1) := by decide +kernel
theorem zd_CG_init_17 : decode zc_CG_init 17 = .ok (.getfield 10, 3) := by decide +kernel
theorem zd_CG_init_20 : decode zc_CG_init 20 = .ok (.getfield 16, 3) := by decide +kernel
theorem zd_CG_init_23 : decode zc_CG_init 23 = .ok (.putfield 20, 3) := by decide +kernel
theorem zd_CG_init_26 : decode zc_CG_init 26 = .ok (.aload_n 0, 1) := by decide +kernel
theorem zd_CG_init_27 : decode zc_CG_init 27 = .ok (.new 21, 3) := by decide +kernel
theorem zd_CG_init_30 : decode zc_CG_init 30 = .ok (.dup, 1) := by decide +kernel
theorem zd_CG_init_31 : decode zc_CG_init 31 = .ok (.invokespecial 23, 3) := by decide +kernel
theorem zd_CG_init_34 : decode zc_CG_init 34 = .ok (.putfield 24, 3) := by decide +kernel
theorem zd_CG_init_37 : decode zc_CG_init 37 = .ok (.return_, 1) := by decide +kernel
theorem zd_PA_init_0 : decode zc_PA_init 0 = .ok (.aload_n 0, 1) := by decide +kernel
theorem zd_PA_init_1 : decode zc_PA_init 1 = .ok (.invokespecial 3, 3) := by decide +kernel
theorem zd_PA_init_4 : decode zc_PA_init 4 = .ok (.aload_n 0, 1) := by decide +kernel
theorem zd_PA_init_5 : decode zc_PA_init 5 = .ok (.sipush 160, 3) := by decide +kernel
theorem zd_PA_init_8 : decode zc_PA_init 8 = .ok (.newarray .int, 2) := by decide +kernel
theorem zd_PA_init_10 : decode zc_PA_init 10 = .ok (.putfield 9, 3) := by decide +kernel
theorem zd_PA_init_13 : decode zc_PA_init 13 = .ok (.aload_n 0, 1) := by decide +kernel
theorem zd_PA_init_14 : decode zc_PA_init 14 = .ok (.sipush 160, 3) := by decide +kernel
theorem zd_PA_init_17 : decode zc_PA_init 17 = .ok (.newarray .int, 2) := by decide +kernel
theorem zd_PA_init_19 : decode zc_PA_init 19 = .ok (.putfield 15, 3) := by decide +kernel
theorem zd_PA_init_22 : decode zc_PA_init 22 = .ok (.aload_n 0, 1) := by decide +kernel
theorem zd_PA_init_23 : decode zc_PA_init 23 = .ok (.sipush 160, 3) := by decide +kernel
theorem zd_PA_init_26 : decode zc_PA_init 26 = .ok (.newarray .int, 2) := by decide +kernel
theorem zd_PA_init_28 : decode zc_PA_init 28 = .ok (.putfield 18, 3) := by decide +kernel
theorem zd_PA_init_31 : decode zc_PA_init 31 = .ok (.aload_n 0, 1) := by decide +kernel
theorem zd_PA_init_32 : decode zc_PA_init 32 = .ok (.new 21, 3) := by decide +kernel
theorem zd_PA_init_35 : decode zc_PA_init 35 = .ok (.dup, 1) := by decide +kernel
theorem zd_PA_init_36 : decode zc_PA_init 36 = .ok (.iconst 1, 1) := by decide +kernel
theorem zd_PA_init_37 : decode zc_PA_init 37 = .ok (.invokespecial 23, 3) := by decide +kernel
theorem zd_PA_init_40 : decode zc_PA_init 40 = .ok (.putfield 26, 3) := by decide +kernel
theorem zd_PA_init_43 : decode zc_PA_init 43 = .ok (.aload_n 0, 1) := by decide +kernel
theorem zd_PA_init_44 : decode zc_PA_init 44 = .ok (.new 30, 3) := by decide +kernel
theorem zd_PA_init_47 : decode zc_PA_init 47 = .ok (.dup, 1) := by decide +kernel
theorem zd_PA_init_48 : decode zc_PA_init 48 = .ok (.invokespecial 32, 3) := by decide +kernel
theorem zd_PA_init_51 : decode zc_PA_init 51 = .ok (.putfield 33, 3) := by decide +kernel
theorem zd_PA_init_54 : decode zc_PA_init 54 = .ok (.aload_n 0, 1) := by decide +kernel
theorem zd_PA_init_55 : decode zc_PA_init 55 = .ok (.sipush 160, 3) := by decide +kernel
theorem zd_PA_init_58 : decode zc_PA_init 58 = .ok (.newarray .int, 2) := by decide +kernel
theorem zd_PA_init_60 : decode zc_PA_init 60 = .ok (.putfield 37, 3) := by decide +kernel
theorem zd_PA_init_63 : decode zc_PA_init 63 = .ok (.aload_n 0, 1) := by decide +kernel
theorem zd_PA_init_64 : decode zc_PA_init 64 = .ok (.sipush 160, 3) := by decide +kernel
theorem zd_PA_init_67 : decode zc_PA_init 67 = .ok (.newarray .int, 2) := by decide +kernel
theorem zd_PA_init_69 : decode zc_PA_init 69 = .ok (.putfield 40, 3) := by decide +kernel
theorem zd_PA_init_72 : decode zc_PA_init 72 = .ok (.return_, 1) := by decide +kernel
theorem zd_TA_init_0 : decode zc_TA_init 0 = .ok (.aload_n 0, 1) := by decide +kernel
theorem zd_TA_init_1 : decode zc_TA_init 1 = .ok (.invokespecial 3, 3) := by decide +kernel
theorem zd_TA_init_4 : decode zc_TA_init 4 = .ok (.aload_n 0, 1) := by decide +kernel
theorem zd_TA_init_5 : decode zc_TA_init 5 = .ok (.iload_n 1, 1) := by decide +kernel
theorem zd_TA_init_6 : decode zc_TA_init 6 = .ok (.iconst 3, 1) := by decide +kernel
theorem zd_TA_init_7 : decode zc_TA_init 7 = .ok (.imul, 1) := by decide +kernel
theorem zd_TA_init_8 : decode zc_TA_init 8 = .ok (.newarray .long, 2) := by decide +kernel
theorem zd_TA_init_10 : decode zc_TA_init 10 = .ok (.putfield 11, 3) := by decide +kernel
theorem zd_TA_init_13 : decode zc_TA_init 13 = .ok (.return_, 1) := by decide +kernel
theorem zd_NE_init_0 : decode zc_NE_init 0 = .ok (.aload_n 0, 1) := by decide +kernel
theorem zd_NE_init_1 : decode zc_NE_init 1 = .ok (.invokespecial 3, 3) := by decide +kernel
theorem zd_NE_init_4 : decode zc_NE_init 4 = .ok (.aload_n 0, 1) := by decide +kernel
theorem zd_NE_init_5 : decode zc_NE_init 5 = .ok (.new 9, 3) := by decide +kernel
theorem zd_NE_init_8 : decode zc_NE_init 8 = .ok (.dup, 1) := by decide +kernel
theorem zd_NE_init_9 : decode zc_NE_init 9 = .ok (.invokespecial 11, 3) := by decide +kernel
theorem zd_NE_init_12 : decode zc_NE_init 12 = .ok (.putfield 12, 3) := by decide +kernel
theorem zd_NE_init_15 : decode zc_NE_init 15 = .ok (.aload_n 0, 1) := by decide +kernel
theorem zd_NE_init_16 : decode zc_NE_init 16 = .ok (.sipush 160, 3) := by decide +kernel
theorem zd_NE_init_19 : decode zc_NE_init 19 = .ok (.newarray .int, 2) := by decide +kernel
theorem zd_NE_init_21 : decode zc_NE_init 21 = .ok (.putfield 18, 3) := by decide +kernel
theorem zd_NE_init_24 : decode zc_NE_init 24 = .ok (.aload_n 0, 1) := by decide +kernel
theorem zd_NE_init_25 : decode zc_NE_init 25 = .ok (.new 22, 3) := by decide +kernel
theorem zd_NE_init_28 : decode zc_NE_init 28 = .ok (.dup, 1) := by decide +kernel
theorem zd_NE_init_29 : decode zc_NE_init 29 = .ok (.sipush 160, 3) := by decide +kernel
theorem zd_NE_init_32 : decode zc_NE_init 32 = .ok (.invokespecial 24, 3) := by decide +kernel
theorem zd_NE_init_35 : decode zc_NE_init 35 = .ok (.putfield 27, 3) := by decide +kernel
theorem zd_NE_init_38 : decode zc_NE_init 38 = .ok (.aload_n 0, 1) := by decide +kernel
theorem zd_NE_init_39 : decode zc_NE_init 39 = .ok (.new 31, 3) := by decide +kernel
theorem zd_NE_init_42 : decode zc_NE_init 42 = .ok (.dup, 1) := by decide +kernel
theorem zd_NE_init_43 : decode zc_NE_init 43 = .ok (.invokespecial 33, 3) := by decide +kernel
theorem zd_NE_init_46 : decode zc_NE_init 46 = .ok (.putfield 34, 3) := by decide +kernel
theorem zd_NE_init_49 : decode zc_NE_init 49 = .ok (.aload_n 0, 1) := by decide +kernel
theorem zd_NE_init_50 : decode zc_NE_init 50 = .ok (.iconst 1, 1) := by decide +kernel
theorem zd_NE_init_51 : decode zc_NE_init 51 = .ok (.invokevirtual 38, 3) := by decide +kernel
theorem zd_NE_init_54 : decode zc_NE_init 54 = .ok (.return_, 1) := by decide +kernel
theorem zd_WA_init_0 : decode zc_WA_init 0 = .ok (.aload_n 0, 1) := by decide +kernel
theorem zd_WA_init_1 : decode zc_WA_init 1 = .ok (.invokespecial 3, 3) := by decide +kernel
theorem zd_WA_init_4 : decode zc_WA_init 4 = .ok (.aload_n 0, 1) := by decide +kernel
theorem zd_WA_init_5 : decode zc_WA_init 5 = .ok (.sipush 160, 3) := by decide +kernel
theorem zd_WA_init_8 : decode zc_WA_init 8 = .ok (.newarray .int, 2) := by decide +kernel
theorem zd_WA_init_10 : decode zc_WA_init 10 = .ok (.putfield 9, 3) := by decide +kernel
theorem zd_WA_init_13 : decode zc_WA_init 13 = .ok (.aload_n 0, 1) := by decide +kernel
theorem zd_WA_init_14 : decode zc_WA_init 14 = .ok (.sipush 160, 3) := by decide +kernel
theorem zd_WA_init_17 : decode zc_WA_init 17 = .ok (.newarray .int, 2) := by decide +kernel
theorem zd_WA_init_19 : decode zc_WA_init 19 = .ok (.putfield 15, 3) := by decide +kernel
theorem zd_WA_init_22 : decode zc_WA_init 22 = .ok (.aload_n 0, 1) := by decide +kernel
theorem zd_WA_init_23 : decode zc_WA_init 23 = .ok (.new 18, 3) := by decide +kernel
theorem zd_WA_init_26 : decode zc_WA_init 26 = .ok (.dup, 1) := by decide +kernel
theorem zd_WA_init_27 : decode zc_WA_init 27 = .ok (.iconst 1, 1) := by decide +kernel
theorem zd_WA_init_28 : decode zc_WA_init 28 = .ok (.invokespecial 20, 3) := by decide +kernel
theorem zd_WA_init_31 : decode zc_WA_init 31 = .ok (.putfield 23, 3) := by decide +kernel
theorem zd_WA_init_34 : decode zc_WA_init 34 = .ok (.aload_n 0, 1) := by decide +kernel
theorem zd_WA_init_35 : decode zc_WA_init 35 = .ok (.new 18, 3) := by decide +kernel
theorem zd_WA_init_38 : decode zc_WA_init 38 = .ok (.dup, 1) := by decide +kernel
theorem zd_WA_init_39 : decode zc_WA_init 39 = .ok (.iconst 1, 1) := by decide +kernel
theorem zd_WA_init_40 : decode zc_WA_init 40 = .ok (.invokespecial 20, 3) := by decide +kernel
theorem zd_WA_init_43 : decode zc_WA_init 43 = .ok (.putfield 27, 3) := by decide +kernel
theorem zd_WA_init_46 : decode zc_WA_init 46 = .ok (.return_, 1) := by decide +kernel
theorem zd_RE_init_0 : decode zc_RE_init 0 = .ok (.aload_n 0, 1) := by decide +kernel
theorem zd_RE_init_1 : decode zc_RE_init 1 = .ok (.invokespecial 3, 3) := by decide +kernel
theorem zd_RE_init_4 : decode zc_RE_init 4 = .ok (.aload_n 0, 1) := by decide +kernel
theorem zd_RE_init_5 : decode zc_RE_init 5 = .ok (.new 9, 3) := by decide +kernel
theorem zd_RE_init_8 : decode zc_RE_init 8 = .ok (.dup, 1) := by decide +kernel
theorem zd_RE_init_9 : decode zc_RE_init 9 = .ok (.sipush 160, 3) := by decide +kernel
theorem zd_RE_init_12 : decode zc_RE_init 12 = .ok (.invokespecial 11, 3) := by decide +kernel
theorem zd_RE_init_15 : decode zc_RE_init 15 = .ok (.putfield 14, 3) := by decide +kernel
theorem zd_RE_init_18 : decode zc_RE_init 18 = .ok (.aload_n 0, 1) := by decide +kernel
theorem zd_RE_init_19 : decode zc_RE_init 19 = .ok (.new 9, 3) := by decide +kernel
theorem zd_RE_init_22 : decode zc_RE_init 22 = .ok (.dup, 1) := by decide +kernel
theorem zd_RE_init_23 : decode zc_RE_init 23 = .ok (.sipush 160, 3) := by decide +kernel
theorem zd_RE_init_26 : decode zc_RE_init 26 = .ok (.invokespecial 11, 3) := by decide +kernel
theorem zd_RE_init_29 : decode zc_RE_init 29 = .ok (.putfield 20, 3) := by decide +kernel
theorem zd_RE_init_32 : decode zc_RE_init 32 = .ok (.aload_n 0, 1) := by decide +kernel
theorem zd_RE_init_33 : decode zc_RE_init 33 = .ok (.sipush 160, 3) := by decide +kernel
theorem zd_RE_init_36 : decode zc_RE_init 36 = .ok (.newarray .int, 2) := by decide +kernel
theorem zd_RE_init_38 : decode zc_RE_init 38 = .ok (.putfield 23, 3) := by decide +kernel
theorem zd_RE_init_41 : decode zc_RE_init 41 = .ok (.return_, 1) := by decide +kernel
theorem zd_NE_begin_0 : decode zc_NE_begin 0 = .ok (.aload_n 0, 1) := by decide +kernel
theorem zd_NE_begin_1 : decode zc_NE_begin 1 = .ok (.iload_n 1, 1) := by decide +kernel
theorem zd_NE_begin_2 : decode zc_NE_begin 2 = .ok (.putfield 41, 3) := by decide +kernel
theorem zd_NE_begin_5 : decode zc_NE_begin 5 = .ok (.aload_n 0, 1) := by decide +kernel
theorem zd_NE_begin_6 : decode zc_NE_begin 6 = .ok (.getfield 27, 3) := by decide +kernel
theorem zd_NE_begin_9 : decode zc_NE_begin 9 = .ok (.invokevirtual 45, 3) := by decide +kernel
theorem zd_NE_begin_12 : decode zc_NE_begin 12 = .ok (.aload_n 0, 1) := by decide +kernel
theorem zd_NE_begin_13 : decode zc_NE_begin 13 = .ok (.iconst 0, 1) := by decide +kernel
theorem zd_NE_begin_14 : decode zc_NE_begin 14 = .ok (.putfield 48, 3) := by decide +kernel
theorem zd_NE_begin_17 : decode zc_NE_begin 17 = .ok (.aload_n 0, 1) := by decide +kernel
theorem zd_NE_begin_18 : decode zc_NE_begin 18 = .ok (.getfield 34, 3) := by decide +kernel
theorem zd_NE_begin_21 : decode zc_NE_begin 21 = .ok (.iload_n 1, 1) := by decide +kernel
theorem zd_NE_begin_22 : decode zc_NE_begin 22 = .ok (.invokevirtual 51, 3) := by decide +kernel
theorem zd_NE_begin_25 : decode zc_NE_begin 25 = .ok (.aload_n 0, 1) := by decide +kernel
theorem zd_NE_begin_26 : decode zc_NE_begin 26 = .ok (.iconst 1, 1) := by decide +kernel
theorem zd_NE_begin_27 : decode zc_NE_begin 27 = .ok (.putfield 52, 3) := by decide +kernel
theorem zd_NE_begin_30 : decode zc_NE_begin 30 = .ok (.aload_n 0, 1) := by decide +kernel
theorem zd_NE_begin_31 : decode zc_NE_begin 31 = .ok (.dup, 1) := by decide +kernel
theorem zd_NE_begin_32 : decode zc_NE_begin 32 = .ok (.getfield 56, 3) := by decide +kernel
theorem zd_NE_begin_35 : decode zc_NE_begin 35 = .ok (.iconst 1, 1) := by decide +kernel
theorem zd_NE_begin_36 : decode zc_NE_begin 36 = .ok (.iadd, 1) := by decide +kernel
theorem zd_NE_begin_37 : decode zc_NE_begin 37 = .ok (.putfield 56, 3) := by decide +kernel
theorem zd_NE_begin_40 : decode zc_NE_begin 40 = .ok (.return_, 1) := by decide +kernel
theorem zd_TA_wipe_0 : decode zc_TA_wipe 0 = .ok (.aload_n 0, 1) := by decide +kernel
theorem zd_TA_wipe_1 : decode zc_TA_wipe 1 = .ok (.getfield 11, 3) := by decide +kernel
theorem zd_TA_wipe_4 : decode zc_TA_wipe 4 = .ok (.lconst 0, 1) := by decide +kernel
theorem zd_TA_wipe_5 : decode zc_TA_wipe 5 = .ok (.invokestatic 15, 3) := by decide +kernel
theorem zd_TA_wipe_8 : decode zc_TA_wipe 8 = .ok (.return_, 1) := by decide +kernel
theorem zd_AR_fill_0 : decode zc_AR_fill 0 = .ok (.iconst 0, 1) := by decide +kernel
theorem zd_AR_fill_1 : decode zc_AR_fill 1 = .ok (.istore_n 3, 1) := by decide +kernel
theorem zd_AR_fill_2 : decode zc_AR_fill 2 = .ok (.aload_n 0, 1) := by decide +kernel
theorem zd_AR_fill_3 : decode zc_AR_fill 3 = .ok (.arraylength, 1) := by decide +kernel
theorem zd_AR_fill_4 : decode zc_AR_fill 4 = .ok (.istore 4, 2) := by decide +kernel
theorem zd_AR_fill_6 : decode zc_AR_fill 6 = .ok (.iload_n 3, 1) := by decide +kernel
theorem zd_AR_fill_7 : decode zc_AR_fill 7 = .ok (.iload 4, 2) := by decide +kernel
theorem zd_AR_fill_9 : decode zc_AR_fill 9 = .ok (.if_icmp .ge 13, 3) := by decide +kernel
theorem zd_AR_fill_12 : decode zc_AR_fill 12 = .ok (.aload_n 0, 1) := by decide +kernel
theorem zd_AR_fill_13 : decode zc_AR_fill 13 = .ok (.iload_n 3, 1) := by decide +kernel
theorem zd_AR_fill_14 : decode zc_AR_fill 14 = .ok (.lload_n 1, 1) := by decide +kernel
theorem zd_AR_fill_15 : decode zc_AR_fill 15 = .ok (.lastore, 1) := by decide +kernel
theorem zd_AR_fill_16 : decode zc_AR_fill 16 = .ok (.iinc 3 1, 3) := by decide +kernel
theorem zd_AR_fill_19 : decode zc_AR_fill 19 = .ok (.goto (-13), 3) := by decide +kernel
theorem zd_AR_fill_22 : decode zc_AR_fill 22 = .ok (.return_, 1) := by decide +kernel
theorem zd_RE_begin_0 : decode zc_RE_begin 0 = .ok (.aload_n 0, 1) := by decide +kernel
theorem zd_RE_begin_1 : decode zc_RE_begin 1 = .ok (.getfield 14, 3) := by decide +kernel
theorem zd_RE_begin_4 : decode zc_RE_begin 4 = .ok (.invokevirtual 27, 3) := by decide +kernel
theorem zd_RE_begin_7 : decode zc_RE_begin 7 = .ok (.aload_n 0, 1) := by decide +kernel
theorem zd_RE_begin_8 : decode zc_RE_begin 8 = .ok (.getfield 20, 3) := by decide +kernel
theorem zd_RE_begin_11 : decode zc_RE_begin 11 = .ok (.invokevirtual 27, 3) := by decide +kernel
theorem zd_RE_begin_14 : decode zc_RE_begin 14 = .ok (.iconst 0, 1) := by decide +kernel
theorem zd_RE_begin_15 : decode zc_RE_begin 15 = .ok (.istore_n 2, 1) := by decide +kernel
theorem zd_RE_begin_16 : decode zc_RE_begin 16 = .ok (.iload_n 2, 1) := by decide +kernel
theorem zd_RE_begin_17 : decode zc_RE_begin 17 = .ok (.iload_n 1, 1) := by decide +kernel
theorem zd_RE_begin_18 : decode zc_RE_begin 18 = .ok (.if_icmp .ge 27, 3) := by decide +kernel
theorem zd_RE_begin_21 : decode zc_RE_begin 21 = .ok (.aload_n 0, 1) := by decide +kernel
theorem zd_RE_begin_22 : decode zc_RE_begin 22 = .ok (.getfield 14, 3) := by decide +kernel
theorem zd_RE_begin_25 : decode zc_RE_begin 25 = .ok (.iload_n 2, 1) := by decide +kernel
theorem zd_RE_begin_26 : decode zc_RE_begin 26 = .ok (.iload_n 2, 1) := by decide +kernel
theorem zd_RE_begin_27 : decode zc_RE_begin 27 = .ok (.invokevirtual 30, 3) := by decide +kernel
theorem zd_RE_begin_30 : decode zc_RE_begin 30 = .ok (.aload_n 0, 1) := by decide +kernel
theorem zd_RE_begin_31 : decode zc_RE_begin 31 = .ok (.getfield 20, 3) := by decide +kernel
theorem zd_RE_begin_34 : decode zc_RE_begin 34 = .ok (.iload_n 2, 1) := by decide +kernel
theorem zd_RE_begin_35 : decode zc_RE_begin 35 = .ok (.iload_n 2, 1) := by decide +kernel
theorem zd_RE_begin_36 : decode zc_RE_begin 36 = .ok (.invokevirtual 30, 3) := by decide +kernel
theorem zd_RE_begin_39 : decode zc_RE_begin 39 = .ok (.iinc 2 1, 3) := by decide +kernel
theorem zd_RE_begin_42 : decode zc_RE_begin 42 = .ok (.goto (-26), 3) := by decide +kernel
theorem zd_RE_begin_45 : decode zc_RE_begin 45 = .ok (.return_, 1) := by decide +kernel
theorem zd_TA_put_0 : decode zc_TA_put 0 = .ok (.aload_n 0, 1) := by decide +kernel
theorem zd_TA_put_1 : decode zc_TA_put 1 = .ok (.getfield 11, 3) := by decide +kernel
theorem zd_TA_put_4 : decode zc_TA_put 4 = .ok (.iload_n 1, 1) := by decide +kernel
theorem zd_TA_put_5 : decode zc_TA_put 5 = .ok (.iconst 3, 1) := by decide +kernel
theorem zd_TA_put_6 : decode zc_TA_put 6 = .ok (.imul, 1) := by decide +kernel
theorem zd_TA_put_7 : decode zc_TA_put 7 = .ok (.iload_n 2, 1) := by decide +kernel
theorem zd_TA_put_8 : decode zc_TA_put 8 = .ok (.bipush 64, 2) := by decide +kernel
theorem zd_TA_put_10 : decode zc_TA_put 10 = .ok (.idiv, 1) := by decide +kernel
theorem zd_TA_put_11 : decode zc_TA_put 11 = .ok (.iadd, 1) := by decide +kernel
theorem zd_TA_put_12 : decode zc_TA_put 12 = .ok (.dup2, 1) := by decide +kernel
theorem zd_TA_put_13 : decode zc_TA_put 13 = .ok (.laload, 1) := by decide +kernel
theorem zd_TA_put_14 : decode zc_TA_put 14 = .ok (.iload_n 2, 1) := by decide +kernel
theorem zd_TA_put_15 : decode zc_TA_put 15 = .ok (.invokestatic 21, 3) := by decide +kernel
theorem zd_TA_put_18 : decode zc_TA_put 18 = .ok (.lor, 1) := by decide +kernel
theorem zd_TA_put_19 : decode zc_TA_put 19 = .ok (.lastore, 1) := by decide +kernel
theorem zd_TA_put_20 : decode zc_TA_put 20 = .ok (.return_, 1) := by decide +kernel
theorem zd_TA_bitOf_0 : decode zc_TA_bitOf 0 = .ok (.lconst 1, 1) := by decide +kernel
theorem zd_TA_bitOf_1 : decode zc_TA_bitOf 1 = .ok (.iload_n 0, 1) := by decide +kernel
theorem zd_TA_bitOf_2 : decode zc_TA_bitOf 2 = .ok (.bipush 64, 2) := by decide +kernel
theorem zd_TA_bitOf_4 : decode zc_TA_bitOf 4 = .ok (.irem, 1) := by decide +kernel
theorem zd_TA_bitOf_5 : decode zc_TA_bitOf 5 = .ok (.lshl, 1) := by decide +kernel
theorem zd_TA_bitOf_6 : decode zc_TA_bitOf 6 = .ok (.lreturn, 1) := by decide +kernel
theorem zd_CR_init_0 : decode zc_CR_init 0 = .ok (.aload_n 0, 1) := by decide +kernel
theorem zd_CR_init_1 : decode zc_CR_init 1 = .ok (.invokespecial 3, 3) := by decide +kernel
theorem zd_CR_init_4 : decode zc_CR_init 4 = .ok (.aload_n 0, 1) := by decide +kernel
theorem zd_CR_init_5 : decode zc_CR_init 5 = .ok (.sipush 400, 3) := by decide +kernel
theorem zd_CR_init_8 : decode zc_CR_init 8 = .ok (.newarray .int, 2) := by decide +kernel
theorem zd_CR_init_10 : decode zc_CR_init 10 = .ok (.putfield 9, 3) := by decide +kernel
theorem zd_CR_init_13 : decode zc_CR_init 13 = .ok (.aload_n 0, 1) := by decide +kernel
theorem zd_CR_init_14 : decode zc_CR_init 14 = .ok (.sipush 400, 3) := by decide +kernel
theorem zd_CR_init_17 : decode zc_CR_init 17 = .ok (.newarray .int, 2) := by decide +kernel
theorem zd_CR_init_19 : decode zc_CR_init 19 = .ok (.putfield 15, 3) := by decide +kernel
theorem zd_CR_init_22 : decode zc_CR_init 22 = .ok (.aload_n 0, 1) := by decide +kernel
theorem zd_CR_init_23 : decode zc_CR_init 23 = .ok (.new 18, 3) := by decide +kernel
theorem zd_CR_init_26 : decode zc_CR_init 26 = .ok (.dup, 1) := by decide +kernel
theorem zd_CR_init_27 : decode zc_CR_init 27 = .ok (.sipush 160, 3) := by decide +kernel
theorem zd_CR_init_30 : decode zc_CR_init 30 = .ok (.invokespecial 20, 3) := by decide +kernel
theorem zd_CR_init_33 : decode zc_CR_init 33 = .ok (.putfield 23, 3) := by decide +kernel
theorem zd_CR_init_36 : decode zc_CR_init 36 = .ok (.aload_n 0, 1) := by decide +kernel
theorem zd_CR_init_37 : decode zc_CR_init 37 = .ok (.new 27, 3) := by decide +kernel
theorem zd_CR_init_40 : decode zc_CR_init 40 = .ok (.dup, 1) := by decide +kernel
theorem zd_CR_init_41 : decode zc_CR_init 41 = .ok (.invokespecial 29, 3) := by decide +kernel
theorem zd_CR_init_44 : decode zc_CR_init 44 = .ok (.putfield 30, 3) := by decide +kernel
theorem zd_CR_init_47 : decode zc_CR_init 47 = .ok (.aload_n 0, 1) := by decide +kernel
theorem zd_CR_init_48 : decode zc_CR_init 48 = .ok (.new 34, 3) := by decide +kernel
theorem zd_CR_init_51 : decode zc_CR_init 51 = .ok (.dup, 1) := by decide +kernel
theorem zd_CR_init_52 : decode zc_CR_init 52 = .ok (.invokespecial 36, 3) := by decide +kernel
theorem zd_CR_init_55 : decode zc_CR_init 55 = .ok (.putfield 37, 3) := by decide +kernel
theorem zd_CR_init_58 : decode zc_CR_init 58 = .ok (.aload_n 0, 1) := by decide +kernel
theorem zd_CR_init_59 : decode zc_CR_init 59 = .ok (.new 18, 3) := by decide +kernel
theorem zd_CR_init_62 : decode zc_CR_init 62 = .ok (.dup, 1) := by decide +kernel
theorem zd_CR_init_63 : decode zc_CR_init 63 = .ok (.iconst 1, 1) := by decide +kernel
theorem zd_CR_init_64 : decode zc_CR_init 64 = .ok (.invokespecial 20, 3) := by decide +kernel
theorem zd_CR_init_67 : decode zc_CR_init 67 = .ok (.putfield 41, 3) := by decide +kernel
theorem zd_CR_init_70 : decode zc_CR_init 70 = .ok (.aload_n 0, 1) := by decide +kernel
theorem zd_CR_init_71 : decode zc_CR_init 71 = .ok (.iconst 1, 1) := by decide +kernel
theorem zd_CR_init_72 : decode zc_CR_init 72 = .ok (.invokevirtual 44, 3) := by decide +kernel
theorem zd_CR_init_75 : decode zc_CR_init 75 = .ok (.return_, 1) := by decide +kernel
theorem zd_CR_begin_0 : decode zc_CR_begin 0 = .ok (.aload_n 0, 1) := by decide +kernel
theorem zd_CR_begin_1 : decode zc_CR_begin 1 = .ok (.iload_n 1, 1) := by decide +kernel
theorem zd_CR_begin_2 : decode zc_CR_begin 2 = .ok (.putfield 47, 3) := by decide +kernel
theorem zd_CR_begin_5 : decode zc_CR_begin 5 = .ok (.aload_n 0, 1) := by decide +kernel
theorem zd_CR_begin_6 : decode zc_CR_begin 6 = .ok (.iconst 0, 1) := by decide +kernel
theorem zd_CR_begin_7 : decode zc_CR_begin 7 = .ok (.putfield 51, 3) := by decide +kernel
theorem zd_CR_begin_10 : decode zc_CR_begin 10 = .ok (.aload_n 0, 1) := by decide +kernel
theorem zd_CR_begin_11 : decode zc_CR_begin 11 = .ok (.invokevirtual 54, 3) := by decide +kernel
theorem zd_CR_begin_14 : decode zc_CR_begin 14 = .ok (.return_, 1) := by decide +kernel
theorem zd_CR_forgetSteps_0 : decode zc_CR_forgetSteps 0 = .ok (.aload_n 0, 1) := by decide +kernel
theorem zd_CR_forgetSteps_1 : decode zc_CR_forgetSteps 1 = .ok (.getfield 23, 3) := by decide +kernel
theorem zd_CR_forgetSteps_4 : decode zc_CR_forgetSteps 4 = .ok (.invokevirtual 67, 3) := by decide +kernel
theorem zd_CR_forgetSteps_7 : decode zc_CR_forgetSteps 7 = .ok (.aload_n 0, 1) := by decide +kernel
theorem zd_CR_forgetSteps_8 : decode zc_CR_forgetSteps 8 = .ok (.getfield 30, 3) := by decide +kernel
theorem zd_CR_forgetSteps_11 : decode zc_CR_forgetSteps 11 = .ok (.iconst 2, 1) := by decide +kernel
theorem zd_CR_forgetSteps_12 : decode zc_CR_forgetSteps 12 = .ok (.aload_n 0, 1) := by decide +kernel
theorem zd_CR_forgetSteps_13 : decode zc_CR_forgetSteps 13 = .ok (.getfield 47, 3) := by decide +kernel
theorem zd_CR_forgetSteps_16 : decode zc_CR_forgetSteps 16 = .ok (.imul, 1) := by decide +kernel
theorem zd_CR_forgetSteps_17 : decode zc_CR_forgetSteps 17 = .ok (.invokevirtual 70, 3) := by decide +kernel
theorem zd_CR_forgetSteps_20 : decode zc_CR_forgetSteps 20 = .ok (.aload_n 0, 1) := by decide +kernel
theorem zd_CR_forgetSteps_21 : decode zc_CR_forgetSteps 21 = .ok (.iconst 0, 1) := by decide +kernel
theorem zd_CR_forgetSteps_22 : decode zc_CR_forgetSteps 22 = .ok (.putfield 71, 3) := by decide +kernel
theorem zd_CR_forgetSteps_25 : decode zc_CR_forgetSteps 25 = .ok (.aload_n 0, 1) := by decide +kernel
theorem zd_CR_forgetSteps_26 : decode zc_CR_forgetSteps 26 = .ok (.iconst (-1), 1) := by decide +kernel
theorem zd_CR_forgetSteps_27 : decode zc_CR_forgetSteps 27 = .ok (.putfield 74, 3) := by decide +kernel
theorem zd_CR_forgetSteps_30 : decode zc_CR_forgetSteps 30 = .ok (.aload_n 0, 1) := by decide +kernel
theorem zd_CR_forgetSteps_31 : decode zc_CR_forgetSteps 31 = .ok (.iconst 0, 1) := by decide +kernel
theorem zd_CR_forgetSteps_32 : decode zc_CR_forgetSteps 32 = .ok (.putfield 57, 3) := by decide +kernel
theorem zd_CR_forgetSteps_35 : decode zc_CR_forgetSteps 35 = .ok (.return_, 1) := by decide +kernel
theorem zd_CG_parts_0 : decode zc_CG_parts 0 = .ok (.aload_n 0, 1) := by decide +kernel
theorem zd_CG_parts_1 : decode zc_CG_parts 1 = .ok (.getfield 10, 3) := by decide +kernel
theorem zd_CG_parts_4 : decode zc_CG_parts 4 = .ok (.invokevirtual 52, 3) := by decide +kernel
theorem zd_CG_parts_7 : decode zc_CG_parts 7 = .ok (.getfield 56, 3) := by decide +kernel
theorem zd_CG_parts_10 : decode zc_CG_parts 10 = .ok (.ireturn, 1) := by decide +kernel
theorem zd_PA_renewed_0 : decode zc_PA_renewed 0 = .ok (.aload_n 0, 1) := by decide +kernel
theorem zd_PA_renewed_1 : decode zc_PA_renewed 1 = .ok (.getfield 43, 3) := by decide +kernel
theorem zd_PA_renewed_4 : decode zc_PA_renewed 4 = .ok (.aload_n 0, 1) := by decide +kernel
theorem zd_PA_renewed_5 : decode zc_PA_renewed 5 = .ok (.getfield 33, 3) := by decide +kernel
theorem zd_PA_renewed_8 : decode zc_PA_renewed 8 = .ok (.getfield 47, 3) := by decide +kernel
theorem zd_PA_renewed_11 : decode zc_PA_renewed 11 = .ok (.if_icmp .eq 29, 3) := by decide +kernel
theorem zd_PA_renewed_14 : decode zc_PA_renewed 14 = .ok (.aload_n 0, 1) := by decide +kernel
theorem zd_PA_renewed_15 : decode zc_PA_renewed 15 = .ok (.aload_n 0, 1) := by decide +kernel
theorem zd_PA_renewed_16 : decode zc_PA_renewed 16 = .ok (.getfield 33, 3) := by decide +kernel
theorem zd_PA_renewed_19 : decode zc_PA_renewed 19 = .ok (.invokevirtual 50, 3) := by decide +kernel
theorem zd_PA_renewed_22 : decode zc_PA_renewed 22 = .ok (.invokevirtual 54, 3) := by decide +kernel
theorem zd_PA_renewed_25 : decode zc_PA_renewed 25 = .ok (.aload_n 0, 1) := by decide +kernel
theorem zd_PA_renewed_26 : decode zc_PA_renewed 26 = .ok (.invokevirtual 58, 3) := by decide +kernel
theorem zd_PA_renewed_29 : decode zc_PA_renewed 29 = .ok (.aload_n 0, 1) := by decide +kernel
theorem zd_PA_renewed_30 : decode zc_PA_renewed 30 = .ok (.aload_n 0, 1) := by decide +kernel
theorem zd_PA_renewed_31 : decode zc_PA_renewed 31 = .ok (.getfield 33, 3) := by decide +kernel
theorem zd_PA_renewed_34 : decode zc_PA_renewed 34 = .ok (.getfield 47, 3) := by decide +kernel
theorem zd_PA_renewed_37 : decode zc_PA_renewed 37 = .ok (.putfield 43, 3) := by decide +kernel
theorem zd_PA_renewed_40 : decode zc_PA_renewed 40 = .ok (.aload_n 0, 1) := by decide +kernel
theorem zd_PA_renewed_41 : decode zc_PA_renewed 41 = .ok (.areturn, 1) := by decide +kernel
theorem zd_NE_settled_0 : decode zc_NE_settled 0 = .ok (.aload_n 0, 1) := by decide +kernel
theorem zd_NE_settled_1 : decode zc_NE_settled 1 = .ok (.getfield 52, 3) := by decide +kernel
theorem zd_NE_settled_4 : decode zc_NE_settled 4 = .ok (.ifCond .ne 40, 3) := by decide +kernel
theorem zd_NE_settled_7 : decode zc_NE_settled 7 = .ok (.aload_n 0, 1) := by decide +kernel
theorem zd_NE_settled_8 : decode zc_NE_settled 8 = .ok (.getfield 34, 3) := by decide +kernel
theorem zd_NE_settled_11 : decode zc_NE_settled 11 = .ok (.aload_n 0, 1) := by decide +kernel
theorem zd_NE_settled_12 : decode zc_NE_settled 12 = .ok (.getfield 41, 3) := by decide +kernel
theorem zd_NE_settled_15 : decode zc_NE_settled 15 = .ok (.invokevirtual 51, 3) := by decide +kernel
theorem zd_NE_settled_18 : decode zc_NE_settled 18 = .ok (.iconst 0, 1) := by decide +kernel
theorem zd_NE_settled_19 : decode zc_NE_settled 19 = .ok (.istore_n 1, 1) := by decide +kernel
theorem zd_NE_settled_20 : decode zc_NE_settled 20 = .ok (.iload_n 1, 1) := by decide +kernel
theorem zd_NE_settled_21 : decode zc_NE_settled 21 = .ok (.aload_n 0, 1) := by decide +kernel
theorem zd_NE_settled_22 : decode zc_NE_settled 22 = .ok (.getfield 41, 3) := by decide +kernel
theorem zd_NE_settled_25 : decode zc_NE_settled 25 = .ok (.if_icmp .ge 14, 3) := by decide +kernel
theorem zd_NE_settled_28 : decode zc_NE_settled 28 = .ok (.aload_n 0, 1) := by decide +kernel
theorem zd_NE_settled_29 : decode zc_NE_settled 29 = .ok (.iload_n 1, 1) := by decide +kernel
theorem zd_NE_settled_30 : decode zc_NE_settled 30 = .ok (.invokevirtual 73, 3) := by decide +kernel
theorem zd_NE_settled_33 : decode zc_NE_settled 33 = .ok (.iinc 1 1, 3) := by decide +kernel
theorem zd_NE_settled_36 : decode zc_NE_settled 36 = .ok (.goto (-16), 3) := by decide +kernel
theorem zd_NE_settled_39 : decode zc_NE_settled 39 = .ok (.aload_n 0, 1) := by decide +kernel
theorem zd_NE_settled_40 : decode zc_NE_settled 40 = .ok (.iconst 1, 1) := by decide +kernel
theorem zd_NE_settled_41 : decode zc_NE_settled 41 = .ok (.putfield 52, 3) := by decide +kernel
theorem zd_NE_settled_44 : decode zc_NE_settled 44 = .ok (.aload_n 0, 1) := by decide +kernel
theorem zd_NE_settled_45 : decode zc_NE_settled 45 = .ok (.getfield 34, 3) := by decide +kernel
theorem zd_NE_settled_48 : decode zc_NE_settled 48 = .ok (.areturn, 1) := by decide +kernel
theorem zd_NE_leadFrom_0 : decode zc_NE_leadFrom 0 = .ok (.aload_n 0, 1) := by decide +kernel
theorem zd_NE_leadFrom_1 : decode zc_NE_leadFrom 1 = .ok (.getfield 27, 3) := by decide +kernel
theorem zd_NE_leadFrom_4 : decode zc_NE_leadFrom 4 = .ok (.iload_n 1, 1) := by decide +kernel
theorem zd_NE_leadFrom_5 : decode zc_NE_leadFrom 5 = .ok (.aload_n 0, 1) := by decide +kernel
theorem zd_NE_leadFrom_6 : decode zc_NE_leadFrom 6 = .ok (.getfield 18, 3) := by decide +kernel
theorem zd_NE_leadFrom_9 : decode zc_NE_leadFrom 9 = .ok (.iconst 0, 1) := by decide +kernel
theorem zd_NE_leadFrom_10 : decode zc_NE_leadFrom 10 = .ok (.invokevirtual 76, 3) := by decide +kernel
theorem zd_NE_leadFrom_13 : decode zc_NE_leadFrom 13 = .ok (.istore_n 2, 1) := by decide +kernel
theorem zd_NE_leadFrom_14 : decode zc_NE_leadFrom 14 = .ok (.iconst 0, 1) := by decide +kernel
theorem zd_NE_leadFrom_15 : decode zc_NE_leadFrom 15 = .ok (.istore_n 3, 1) := by decide +kernel
theorem zd_NE_leadFrom_16 : decode zc_NE_leadFrom 16 = .ok (.iload_n 3, 1) := by decide +kernel
theorem zd_NE_leadFrom_17 : decode zc_NE_leadFrom 17 = .ok (.iload_n 2, 1) := by decide +kernel
theorem zd_NE_leadFrom_18 : decode zc_NE_leadFrom 18 = .ok (.if_icmp .ge 23, 3) := by decide +kernel
theorem zd_NE_leadFrom_21 : decode zc_NE_leadFrom 21 = .ok (.aload_n 0, 1) := by decide +kernel
theorem zd_NE_leadFrom_22 : decode zc_NE_leadFrom 22 = .ok (.getfield 34, 3) := by decide +kernel
theorem zd_NE_leadFrom_25 : decode zc_NE_leadFrom 25 = .ok (.iload_n 1, 1) := by decide +kernel
theorem zd_NE_leadFrom_26 : decode zc_NE_leadFrom 26 = .ok (.aload_n 0, 1) := by decide +kernel
theorem zd_NE_leadFrom_27 : decode zc_NE_leadFrom 27 = .ok (.getfield 18, 3) := by decide +kernel
theorem zd_NE_leadFrom_30 : decode zc_NE_leadFrom 30 = .ok (.iload_n 3, 1) := by decide +kernel
theorem zd_NE_leadFrom_31 : decode zc_NE_leadFrom 31 = .ok (.iaload, 1) := by decide +kernel
theorem zd_NE_leadFrom_32 : decode zc_NE_leadFrom 32 = .ok (.invokevirtual 67, 3) := by decide +kernel
theorem zd_NE_leadFrom_35 : decode zc_NE_leadFrom 35 = .ok (.iinc 3 1, 3) := by decide +kernel
theorem zd_NE_leadFrom_38 : decode zc_NE_leadFrom 38 = .ok (.goto (-22), 3) := by decide +kernel
theorem zd_NE_leadFrom_41 : decode zc_NE_leadFrom 41 = .ok (.return_, 1) := by decide +kernel
theorem zd_TA_list_0 : decode zc_TA_list 0 = .ok (.iload_n 3, 1) := by decide +kernel
theorem zd_TA_list_1 : decode zc_TA_list 1 = .ok (.istore 4, 2) := by decide +kernel
theorem zd_TA_list_3 : decode zc_TA_list 3 = .ok (.iconst 0, 1) := by decide +kernel
theorem zd_TA_list_4 : decode zc_TA_list 4 = .ok (.istore 5, 2) := by decide +kernel
theorem zd_TA_list_6 : decode zc_TA_list 6 = .ok (.iload 5, 2) := by decide +kernel
theorem zd_TA_list_8 : decode zc_TA_list 8 = .ok (.iconst 3, 1) := by decide +kernel
theorem zd_TA_list_9 : decode zc_TA_list 9 = .ok (.if_icmp .ge 74, 3) := by decide +kernel
theorem zd_TA_list_12 : decode zc_TA_list 12 = .ok (.aload_n 0, 1) := by decide +kernel
theorem zd_TA_list_13 : decode zc_TA_list 13 = .ok (.getfield 11, 3) := by decide +kernel
theorem zd_TA_list_16 : decode zc_TA_list 16 = .ok (.iload_n 1, 1) := by decide +kernel
theorem zd_TA_list_17 : decode zc_TA_list 17 = .ok (.iconst 3, 1) := by decide +kernel
theorem zd_TA_list_18 : decode zc_TA_list 18 = .ok (.imul, 1) := by decide +kernel
theorem zd_TA_list_19 : decode zc_TA_list 19 = .ok (.iload 5, 2) := by decide +kernel
theorem zd_TA_list_21 : decode zc_TA_list 21 = .ok (.iadd, 1) := by decide +kernel
theorem zd_TA_list_22 : decode zc_TA_list 22 = .ok (.laload, 1) := by decide +kernel
theorem zd_TA_list_23 : decode zc_TA_list 23 = .ok (.lstore 6, 2) := by decide +kernel
theorem zd_TA_list_25 : decode zc_TA_list 25 = .ok (.lload 6, 2) := by decide +kernel
theorem zd_TA_list_27 : decode zc_TA_list 27 = .ok (.invokestatic 31, 3) := by decide +kernel
theorem zd_TA_list_30 : decode zc_TA_list 30 = .ok (.istore 8, 2) := by decide +kernel
theorem zd_TA_list_32 : decode zc_TA_list 32 = .ok (.iload 8, 2) := by decide +kernel
theorem zd_TA_list_34 : decode zc_TA_list 34 = .ok (.ifCond .le 43, 3) := by decide +kernel
theorem zd_TA_list_37 : decode zc_TA_list 37 = .ok (.iload 4, 2) := by decide +kernel
theorem zd_TA_list_39 : decode zc_TA_list 39 = .ok (.aload_n 2, 1) := by decide +kernel
theorem zd_TA_list_40 : decode zc_TA_list 40 = .ok (.arraylength, 1) := by decide +kernel
theorem zd_TA_list_41 : decode zc_TA_list 41 = .ok (.if_icmp .ge 36, 3) := by decide +kernel
theorem zd_TA_list_44 : decode zc_TA_list 44 = .ok (.aload_n 2, 1) := by decide +kernel
theorem zd_TA_list_45 : decode zc_TA_list 45 = .ok (.iload 4, 2) := by decide +kernel
theorem zd_TA_list_47 : decode zc_TA_list 47 = .ok (.iload 5, 2) := by decide +kernel
theorem zd_TA_list_49 : decode zc_TA_list 49 = .ok (.bipush 64, 2) := by decide +kernel
theorem zd_TA_list_51 : decode zc_TA_list 51 = .ok (.imul, 1) := by decide +kernel
theorem zd_TA_list_52 : decode zc_TA_list 52 = .ok (.lload 6, 2) := by decide +kernel
theorem zd_TA_list_54 : decode zc_TA_list 54 = .ok (.invokestatic 37, 3) := by decide +kernel
theorem zd_TA_list_57 : decode zc_TA_list 57 = .ok (.iadd, 1) := by decide +kernel
theorem zd_TA_list_58 : decode zc_TA_list 58 = .ok (.iastore, 1) := by decide +kernel
theorem zd_TA_list_59 : decode zc_TA_list 59 = .ok (.iinc 4 1, 3) := by decide +kernel
theorem zd_TA_list_62 : decode zc_TA_list 62 = .ok (.lload 6, 2) := by decide +kernel
theorem zd_TA_list_64 : decode zc_TA_list 64 = .ok (.lload 6, 2) := by decide +kernel
theorem zd_TA_list_66 : decode zc_TA_list 66 = .ok (.lconst 1, 1) := by decide +kernel
theorem zd_TA_list_67 : decode zc_TA_list 67 = .ok (.lsub, 1) := by decide +kernel
theorem zd_TA_list_68 : decode zc_TA_list 68 = .ok (.land, 1) := by decide +kernel
theorem zd_TA_list_69 : decode zc_TA_list 69 = .ok (.lstore 6, 2) := by decide +kernel
theorem zd_TA_list_71 : decode zc_TA_list 71 = .ok (.iinc 8 (-1), 3) := by decide +kernel
theorem zd_TA_list_74 : decode zc_TA_list 74 = .ok (.goto (-42), 3) := by decide +kernel
theorem zd_TA_list_77 : decode zc_TA_list 77 = .ok (.iinc 5 1, 3) := by decide +kernel
theorem zd_TA_list_80 : decode zc_TA_list 80 = .ok (.goto (-74), 3) := by decide +kernel
theorem zd_TA_list_83 : decode zc_TA_list 83 = .ok (.iload 4, 2) := by decide +kernel
theorem zd_TA_list_85 : decode zc_TA_list 85 = .ok (.ireturn, 1) := by decide +kernel
theorem zd_LO_bitCount_0 : decode zc_LO_bitCount 0 = .ok (.lload_n 0, 1) := by decide +kernel
theorem zd_LO_bitCount_1 : decode zc_LO_bitCount 1 = .ok (.lload_n 0, 1) := by decide +kernel
theorem zd_LO_bitCount_2 : decode zc_LO_bitCount 2 = .ok (.iconst 1, 1) := by decide +kernel
theorem zd_LO_bitCount_3 : decode zc_LO_bitCount 3 = .ok (.lushr, 1) := by decide +kernel
theorem zd_LO_bitCount_4 : decode zc_LO_bitCount 4 = .ok (.ldc2_w 314, 3) := by decide +kernel
theorem zd_LO_bitCount_7 : decode zc_LO_bitCount 7 = .ok (.land, 1) := by decide +kernel
theorem zd_LO_bitCount_8 : decode zc_LO_bitCount 8 = .ok (.lsub, 1) := by decide +kernel
theorem zd_LO_bitCount_9 : decode zc_LO_bitCount 9 = .ok (.lstore_n 0, 1) := by decide +kernel
theorem zd_LO_bitCount_10 : decode zc_LO_bitCount 10 = .ok (.lload_n 0, 1) := by decide +kernel
theorem zd_LO_bitCount_11 : decode zc_LO_bitCount 11 = .ok (.ldc2_w 316, 3) := by decide +kernel
theorem zd_LO_bitCount_14 : decode zc_LO_bitCount 14 = .ok (.land, 1) := by decide +kernel
theorem zd_LO_bitCount_15 : decode zc_LO_bitCount 15 = .ok (.lload_n 0, 1) := by decide +kernel
theorem zd_LO_bitCount_16 : decode zc_LO_bitCount 16 = .ok (.iconst 2, 1) := by decide +kernel
theorem zd_LO_bitCount_17 : decode zc_LO_bitCount 17 = .ok (.lushr, 1) := by decide +kernel
theorem zd_LO_bitCount_18 : decode zc_LO_bitCount 18 = .ok (.ldc2_w 316, 3) := by decide +kernel
theorem zd_LO_bitCount_21 : decode zc_LO_bitCount 21 = .ok (.land, 1) := by decide +kernel
theorem zd_LO_bitCount_22 : decode zc_LO_bitCount 22 = .ok (.ladd, 1) := by decide +kernel
theorem zd_LO_bitCount_23 : decode zc_LO_bitCount 23 = .ok (.lstore_n 0, 1) := by decide +kernel
theorem zd_LO_bitCount_24 : decode zc_LO_bitCount 24 = .ok (.lload_n 0, 1) := by decide +kernel
theorem zd_LO_bitCount_25 : decode zc_LO_bitCount 25 = .ok (.lload_n 0, 1) := by decide +kernel
theorem zd_LO_bitCount_26 : decode zc_LO_bitCount 26 = .ok (.iconst 4, 1) := by decide +kernel
theorem zd_LO_bitCount_27 : decode zc_LO_bitCount 27 = .ok (.lushr, 1) := by decide +kernel
theorem zd_LO_bitCount_28 : decode zc_LO_bitCount 28 = .ok (.ladd, 1) := by decide +kernel
theorem zd_LO_bitCount_29 : decode zc_LO_bitCount 29 = .ok (.ldc2_w 318, 3) := by decide +kernel
theorem zd_LO_bitCount_32 : decode zc_LO_bitCount 32 = .ok (.land, 1) := by decide +kernel
theorem zd_LO_bitCount_33 : decode zc_LO_bitCount 33 = .ok (.lstore_n 0, 1) := by decide +kernel
theorem zd_LO_bitCount_34 : decode zc_LO_bitCount 34 = .ok (.lload_n 0, 1) := by decide +kernel
theorem zd_LO_bitCount_35 : decode zc_LO_bitCount 35 = .ok (.lload_n 0, 1) := by decide +kernel
theorem zd_LO_bitCount_36 : decode zc_LO_bitCount 36 = .ok (.bipush 8, 2) := by decide +kernel
theorem zd_LO_bitCount_38 : decode zc_LO_bitCount 38 = .ok (.lushr, 1) := by decide +kernel
theorem zd_LO_bitCount_39 : decode zc_LO_bitCount 39 = .ok (.ladd, 1) := by decide +kernel
theorem zd_LO_bitCount_40 : decode zc_LO_bitCount 40 = .ok (.lstore_n 0, 1) := by decide +kernel
theorem zd_LO_bitCount_41 : decode zc_LO_bitCount 41 = .ok (.lload_n 0, 1) := by decide +kernel
theorem zd_LO_bitCount_42 : decode zc_LO_bitCount 42 = .ok (.lload_n 0, 1) := by decide +kernel
theorem zd_LO_bitCount_43 : decode zc_LO_bitCount 43 = .ok (.bipush 16, 2) := by decide +kernel
theorem zd_LO_bitCount_45 : decode zc_LO_bitCount 45 = .ok (.lushr, 1) := by decide +kernel
theorem zd_LO_bitCount_46 : decode zc_LO_bitCount 46 = .ok (.ladd, 1) := by decide +kernel
theorem zd_LO_bitCount_47 : decode zc_LO_bitCount 47 = .ok (.lstore_n 0, 1) := by decide +kernel
theorem zd_LO_bitCount_48 : decode zc_LO_bitCount 48 = .ok (.lload_n 0, 1) := by decide +kernel
theorem zd_LO_bitCount_49 : decode zc_LO_bitCount 49 = .ok (.lload_n 0, 1) := by decide +kernel
theorem zd_LO_bitCount_50 : decode zc_LO_bitCount 50 = .ok (.bipush 32, 2) := by decide +kernel
theorem zd_LO_bitCount_52 : decode zc_LO_bitCount 52 = .ok (.lushr, 1) := by decide +kernel
theorem zd_LO_bitCount_53 : decode zc_LO_bitCount 53 = .ok (.ladd, 1) := by decide +kernel
theorem zd_LO_bitCount_54 : decode zc_LO_bitCount 54 = .ok (.lstore_n 0, 1) := by decide +kernel
theorem zd_LO_bitCount_55 : decode zc_LO_bitCount 55 = .ok (.lload_n 0, 1) := by decide +kernel
theorem zd_LO_bitCount_56 : decode zc_LO_bitCount 56 = .ok (.l2i, 1) := by decide +kernel
theorem zd_LO_bitCount_57 : decode zc_LO_bitCount 57 = .ok (.bipush 127, 2) := by decide +kernel
theorem zd_LO_bitCount_59 : decode zc_LO_bitCount 59 = .ok (.iand, 1) := by decide +kernel
theorem zd_LO_bitCount_60 : decode zc_LO_bitCount 60 = .ok (.ireturn, 1) := by decide +kernel
theorem zd_TA_lowestOf_0 : decode zc_TA_lowestOf 0 = .ok (.lload_n 0, 1) := by decide +kernel
theorem zd_TA_lowestOf_1 : decode zc_TA_lowestOf 1 = .ok (.lload_n 0, 1) := by decide +kernel
theorem zd_TA_lowestOf_2 : decode zc_TA_lowestOf 2 = .ok (.lneg, 1) := by decide +kernel
theorem zd_TA_lowestOf_3 : decode zc_TA_lowestOf 3 = .ok (.land, 1) := by decide +kernel
theorem zd_TA_lowestOf_4 : decode zc_TA_lowestOf 4 = .ok (.lconst 1, 1) := by decide +kernel
theorem zd_TA_lowestOf_5 : decode zc_TA_lowestOf 5 = .ok (.lsub, 1) := by decide +kernel
theorem zd_TA_lowestOf_6 : decode zc_TA_lowestOf 6 = .ok (.invokestatic 31, 3) := by decide +kernel
theorem zd_TA_lowestOf_9 : decode zc_TA_lowestOf 9 = .ok (.ireturn, 1) := by decide +kernel
theorem zd_RE_lead_0 : decode zc_RE_lead 0 = .ok (.aload_n 0, 1) := by decide +kernel
theorem zd_RE_lead_1 : decode zc_RE_lead 1 = .ok (.getfield 14, 3) := by decide +kernel
theorem zd_RE_lead_4 : decode zc_RE_lead 4 = .ok (.iload_n 1, 1) := by decide +kernel
theorem zd_RE_lead_5 : decode zc_RE_lead 5 = .ok (.iload_n 2, 1) := by decide +kernel
theorem zd_RE_lead_6 : decode zc_RE_lead 6 = .ok (.invokevirtual 34, 3) := by decide +kernel
theorem zd_RE_lead_9 : decode zc_RE_lead 9 = .ok (.ifCond .eq 4, 3) := by decide +kernel
theorem zd_RE_lead_12 : decode zc_RE_lead 12 = .ok (.return_, 1) := by decide +kernel
theorem zd_RE_lead_13 : decode zc_RE_lead 13 = .ok (.aload_n 0, 1) := by decide +kernel
theorem zd_RE_lead_14 : decode zc_RE_lead 14 = .ok (.getfield 20, 3) := by decide +kernel
theorem zd_RE_lead_17 : decode zc_RE_lead 17 = .ok (.iload_n 1, 1) := by decide +kernel
theorem zd_RE_lead_18 : decode zc_RE_lead 18 = .ok (.aload_n 0, 1) := by decide +kernel
theorem zd_RE_lead_19 : decode zc_RE_lead 19 = .ok (.getfield 23, 3) := by decide +kernel
theorem zd_RE_lead_22 : decode zc_RE_lead 22 = .ok (.iconst 0, 1) := by decide +kernel
theorem zd_RE_lead_23 : decode zc_RE_lead 23 = .ok (.invokevirtual 38, 3) := by decide +kernel
theorem zd_RE_lead_26 : decode zc_RE_lead 26 = .ok (.istore_n 3, 1) := by decide +kernel
theorem zd_RE_lead_27 : decode zc_RE_lead 27 = .ok (.iconst 0, 1) := by decide +kernel
theorem zd_RE_lead_28 : decode zc_RE_lead 28 = .ok (.istore 4, 2) := by decide +kernel
theorem zd_RE_lead_30 : decode zc_RE_lead 30 = .ok (.iload 4, 2) := by decide +kernel
theorem zd_RE_lead_32 : decode zc_RE_lead 32 = .ok (.iload_n 3, 1) := by decide +kernel
theorem zd_RE_lead_33 : decode zc_RE_lead 33 = .ok (.if_icmp .ge 28, 3) := by decide +kernel
theorem zd_RE_lead_36 : decode zc_RE_lead 36 = .ok (.aload_n 0, 1) := by decide +kernel
theorem zd_RE_lead_37 : decode zc_RE_lead 37 = .ok (.getfield 14, 3) := by decide +kernel
theorem zd_RE_lead_40 : decode zc_RE_lead 40 = .ok (.aload_n 0, 1) := by decide +kernel
theorem zd_RE_lead_41 : decode zc_RE_lead 41 = .ok (.getfield 23, 3) := by decide +kernel
theorem zd_RE_lead_44 : decode zc_RE_lead 44 = .ok (.iload 4, 2) := by decide +kernel
theorem zd_RE_lead_46 : decode zc_RE_lead 46 = .ok (.iaload, 1) := by decide +kernel
theorem zd_RE_lead_47 : decode zc_RE_lead 47 = .ok (.aload_n 0, 1) := by decide +kernel
theorem zd_RE_lead_48 : decode zc_RE_lead 48 = .ok (.getfield 14, 3) := by decide +kernel
theorem zd_RE_lead_51 : decode zc_RE_lead 51 = .ok (.iload_n 2, 1) := by decide +kernel
theorem zd_RE_lead_52 : decode zc_RE_lead 52 = .ok (.invokevirtual 42, 3) := by decide +kernel
theorem zd_RE_lead_55 : decode zc_RE_lead 55 = .ok (.iinc 4 1, 3) := by decide +kernel
theorem zd_RE_lead_58 : decode zc_RE_lead 58 = .ok (.goto (-28), 3) := by decide +kernel
theorem zd_RE_lead_61 : decode zc_RE_lead 61 = .ok (.aload_n 0, 1) := by decide +kernel
theorem zd_RE_lead_62 : decode zc_RE_lead 62 = .ok (.getfield 14, 3) := by decide +kernel
theorem zd_RE_lead_65 : decode zc_RE_lead 65 = .ok (.iload_n 2, 1) := by decide +kernel
theorem zd_RE_lead_66 : decode zc_RE_lead 66 = .ok (.aload_n 0, 1) := by decide +kernel
theorem zd_RE_lead_67 : decode zc_RE_lead 67 = .ok (.getfield 23, 3) := by decide +kernel
theorem zd_RE_lead_70 : decode zc_RE_lead 70 = .ok (.iconst 0, 1) := by decide +kernel
theorem zd_RE_lead_71 : decode zc_RE_lead 71 = .ok (.invokevirtual 38, 3) := by decide +kernel
theorem zd_RE_lead_74 : decode zc_RE_lead 74 = .ok (.istore_n 3, 1) := by decide +kernel
theorem zd_RE_lead_75 : decode zc_RE_lead 75 = .ok (.iconst 0, 1) := by decide +kernel
theorem zd_RE_lead_76 : decode zc_RE_lead 76 = .ok (.istore 4, 2) := by decide +kernel
theorem zd_RE_lead_78 : decode zc_RE_lead 78 = .ok (.iload 4, 2) := by decide +kernel
theorem zd_RE_lead_80 : decode zc_RE_lead 80 = .ok (.iload_n 3, 1) := by decide +kernel
theorem zd_RE_lead_81 : decode zc_RE_lead 81 = .ok (.if_icmp .ge 28, 3) := by decide +kernel
theorem zd_RE_lead_84 : decode zc_RE_lead 84 = .ok (.aload_n 0, 1) := by decide +kernel
theorem zd_RE_lead_85 : decode zc_RE_lead 85 = .ok (.getfield 20, 3) := by decide +kernel
theorem zd_RE_lead_88 : decode zc_RE_lead 88 = .ok (.aload_n 0, 1) := by decide +kernel
theorem zd_RE_lead_89 : decode zc_RE_lead 89 = .ok (.getfield 23, 3) := by decide +kernel
theorem zd_RE_lead_92 : decode zc_RE_lead 92 = .ok (.iload 4, 2) := by decide +kernel
theorem zd_RE_lead_94 : decode zc_RE_lead 94 = .ok (.iaload, 1) := by decide +kernel
theorem zd_RE_lead_95 : decode zc_RE_lead 95 = .ok (.aload_n 0, 1) := by decide +kernel
theorem zd_RE_lead_96 : decode zc_RE_lead 96 = .ok (.getfield 20, 3) := by decide +kernel
theorem zd_RE_lead_99 : decode zc_RE_lead 99 = .ok (.iload_n 1, 1) := by decide +kernel
theorem zd_RE_lead_100 : decode zc_RE_lead 100 = .ok (.invokevirtual 42, 3) := by decide +kernel
theorem zd_RE_lead_103 : decode zc_RE_lead 103 = .ok (.iinc 4 1, 3) := by decide +kernel
theorem zd_RE_lead_106 : decode zc_RE_lead 106 = .ok (.goto (-28), 3) := by decide +kernel
theorem zd_RE_lead_109 : decode zc_RE_lead 109 = .ok (.return_, 1) := by decide +kernel
theorem zd_TA_has_0 : decode zc_TA_has 0 = .ok (.aload_n 0, 1) := by decide +kernel
theorem zd_TA_has_1 : decode zc_TA_has 1 = .ok (.getfield 11, 3) := by decide +kernel
theorem zd_TA_has_4 : decode zc_TA_has 4 = .ok (.iload_n 1, 1) := by decide +kernel
theorem zd_TA_has_5 : decode zc_TA_has 5 = .ok (.iconst 3, 1) := by decide +kernel
theorem zd_TA_has_6 : decode zc_TA_has 6 = .ok (.imul, 1) := by decide +kernel
theorem zd_TA_has_7 : decode zc_TA_has 7 = .ok (.iload_n 2, 1) := by decide +kernel
theorem zd_TA_has_8 : decode zc_TA_has 8 = .ok (.bipush 64, 2) := by decide +kernel
theorem zd_TA_has_10 : decode zc_TA_has 10 = .ok (.idiv, 1) := by decide +kernel
theorem zd_TA_has_11 : decode zc_TA_has 11 = .ok (.iadd, 1) := by decide +kernel
theorem zd_TA_has_12 : decode zc_TA_has 12 = .ok (.laload, 1) := by decide +kernel
theorem zd_TA_has_13 : decode zc_TA_has 13 = .ok (.iload_n 2, 1) := by decide +kernel
theorem zd_TA_has_14 : decode zc_TA_has 14 = .ok (.invokestatic 21, 3) := by decide +kernel
theorem zd_TA_has_17 : decode zc_TA_has 17 = .ok (.land, 1) := by decide +kernel
theorem zd_TA_has_18 : decode zc_TA_has 18 = .ok (.lconst 0, 1) := by decide +kernel
theorem zd_TA_has_19 : decode zc_TA_has 19 = .ok (.lcmp, 1) := by decide +kernel
theorem zd_TA_has_20 : decode zc_TA_has 20 = .ok (.ifCond .eq 7, 3) := by decide +kernel
theorem zd_TA_has_23 : decode zc_TA_has 23 = .ok (.iconst 1, 1) := by decide +kernel
theorem zd_TA_has_24 : decode zc_TA_has 24 = .ok (.goto 4, 3) := by decide +kernel
theorem zd_TA_has_27 : decode zc_TA_has 27 = .ok (.iconst 0, 1) := by decide +kernel
theorem zd_TA_has_28 : decode zc_TA_has 28 = .ok (.ireturn, 1) := by decide +kernel
theorem zd_TA_join_0 : decode zc_TA_join 0 = .ok (.iconst 0, 1) := by decide +kernel
theorem zd_TA_join_1 : decode zc_TA_join 1 = .ok (.istore 4, 2) := by decide +kernel
theorem zd_TA_join_3 : decode zc_TA_join 3 = .ok (.iload 4, 2) := by decide +kernel
theorem zd_TA_join_5 : decode zc_TA_join 5 = .ok (.iconst 3, 1) := by decide +kernel
theorem zd_TA_join_6 : decode zc_TA_join 6 = .ok (.if_icmp .ge 34, 3) := by decide +kernel
theorem zd_TA_join_9 : decode zc_TA_join 9 = .ok (.aload_n 0, 1) := by decide +kernel
theorem zd_TA_join_10 : decode zc_TA_join 10 = .ok (.getfield 11, 3) := by decide +kernel
theorem zd_TA_join_13 : decode zc_TA_join 13 = .ok (.iload_n 1, 1) := by decide +kernel
theorem zd_TA_join_14 : decode zc_TA_join 14 = .ok (.iconst 3, 1) := by decide +kernel
theorem zd_TA_join_15 : decode zc_TA_join 15 = .ok (.imul, 1) := by decide +kernel
theorem zd_TA_join_16 : decode zc_TA_join 16 = .ok (.iload 4, 2) := by decide +kernel
theorem zd_TA_join_18 : decode zc_TA_join 18 = .ok (.iadd, 1) := by decide +kernel
theorem zd_TA_join_19 : decode zc_TA_join 19 = .ok (.dup2, 1) := by decide +kernel
theorem zd_TA_join_20 : decode zc_TA_join 20 = .ok (.laload, 1) := by decide +kernel
theorem zd_TA_join_21 : decode zc_TA_join 21 = .ok (.aload_n 2, 1) := by decide +kernel
theorem zd_TA_join_22 : decode zc_TA_join 22 = .ok (.getfield 11, 3) := by decide +kernel
theorem zd_TA_join_25 : decode zc_TA_join 25 = .ok (.iload_n 3, 1) := by decide +kernel
theorem zd_TA_join_26 : decode zc_TA_join 26 = .ok (.iconst 3, 1) := by decide +kernel
theorem zd_TA_join_27 : decode zc_TA_join 27 = .ok (.imul, 1) := by decide +kernel
theorem zd_TA_join_28 : decode zc_TA_join 28 = .ok (.iload 4, 2) := by decide +kernel
theorem zd_TA_join_30 : decode zc_TA_join 30 = .ok (.iadd, 1) := by decide +kernel
theorem zd_TA_join_31 : decode zc_TA_join 31 = .ok (.laload, 1) := by decide +kernel
theorem zd_TA_join_32 : decode zc_TA_join 32 = .ok (.lor, 1) := by decide +kernel
theorem zd_TA_join_33 : decode zc_TA_join 33 = .ok (.lastore, 1) := by decide +kernel
theorem zd_TA_join_34 : decode zc_TA_join 34 = .ok (.iinc 4 1, 3) := by decide +kernel
theorem zd_TA_join_37 : decode zc_TA_join 37 = .ok (.goto (-34), 3) := by decide +kernel
theorem zd_TA_join_40 : decode zc_TA_join 40 = .ok (.return_, 1) := by decide +kernel
theorem zd_PA_waitForOthers_0 : decode zc_PA_waitForOthers 0 = .ok (.iconst 0, 1) := by decide +kernel
theorem zd_PA_waitForOthers_1 : decode zc_PA_waitForOthers 1 = .ok (.istore_n 2, 1) := by decide +kernel
theorem zd_PA_waitForOthers_2 : decode zc_PA_waitForOthers 2 = .ok (.iload_n 2, 1) := by decide +kernel
theorem zd_PA_waitForOthers_3 : decode zc_PA_waitForOthers 3 = .ok (.aload_n 0, 1) := by decide +kernel
theorem zd_PA_waitForOthers_4 : decode zc_PA_waitForOthers 4 = .ok (.getfield 33, 3) := by decide +kernel
theorem zd_PA_waitForOthers_7 : decode zc_PA_waitForOthers 7 = .ok (.getfield 61, 3) := by decide +kernel
theorem zd_PA_waitForOthers_10 : decode zc_PA_waitForOthers 10 = .ok (.if_icmp .ge 33, 3) := by decide +kernel
theorem zd_PA_waitForOthers_13 : decode zc_PA_waitForOthers 13 = .ok (.aload_n 0, 1) := by decide +kernel
theorem zd_PA_waitForOthers_14 : decode zc_PA_waitForOthers 14 = .ok (.getfield 37, 3) := by decide +kernel
theorem zd_PA_waitForOthers_17 : decode zc_PA_waitForOthers 17 = .ok (.iload_n 2, 1) := by decide +kernel
theorem zd_PA_waitForOthers_18 : decode zc_PA_waitForOthers 18 = .ok (.iconst (-1), 1) := by decide +kernel
theorem zd_PA_waitForOthers_19 : decode zc_PA_waitForOthers 19 = .ok (.iastore, 1) := by decide +kernel
theorem zd_PA_waitForOthers_20 : decode zc_PA_waitForOthers 20 = .ok (.aload_n 0, 1) := by decide +kernel
theorem zd_PA_waitForOthers_21 : decode zc_PA_waitForOthers 21 = .ok (.getfield 9, 3) := by decide +kernel
theorem zd_PA_waitForOthers_24 : decode zc_PA_waitForOthers 24 = .ok (.iload_n 2, 1) := by decide +kernel
theorem zd_PA_waitForOthers_25 : decode zc_PA_waitForOthers 25 = .ok (.aload_n 1, 1) := by decide +kernel
theorem zd_PA_waitForOthers_26 : decode zc_PA_waitForOthers 26 = .ok (.iload_n 2, 1) := by decide +kernel
theorem zd_PA_waitForOthers_27 : decode zc_PA_waitForOthers 27 = .ok (.invokevirtual 64, 3) := by decide +kernel
theorem zd_PA_waitForOthers_30 : decode zc_PA_waitForOthers 30 = .ok (.aload_n 1, 1) := by decide +kernel
theorem zd_PA_waitForOthers_31 : decode zc_PA_waitForOthers 31 = .ok (.iload_n 2, 1) := by decide +kernel
theorem zd_PA_waitForOthers_32 : decode zc_PA_waitForOthers 32 = .ok (.invokevirtual 70, 3) := by decide +kernel
theorem zd_PA_waitForOthers_35 : decode zc_PA_waitForOthers 35 = .ok (.isub, 1) := by decide +kernel
theorem zd_PA_waitForOthers_36 : decode zc_PA_waitForOthers 36 = .ok (.iastore, 1) := by decide +kernel
theorem zd_PA_waitForOthers_37 : decode zc_PA_waitForOthers 37 = .ok (.iinc 2 1, 3) := by decide +kernel
theorem zd_PA_waitForOthers_40 : decode zc_PA_waitForOthers 40 = .ok (.goto (-38), 3) := by decide +kernel
theorem zd_PA_waitForOthers_43 : decode zc_PA_waitForOthers 43 = .ok (.return_, 1) := by decide +kernel
theorem zd_RE_countBehind_0 : decode zc_RE_countBehind 0 = .ok (.aload_n 0, 1) := by decide +kernel
theorem zd_RE_countBehind_1 : decode zc_RE_countBehind 1 = .ok (.getfield 20, 3) := by decide +kernel
theorem zd_RE_countBehind_4 : decode zc_RE_countBehind 4 = .ok (.iload_n 1, 1) := by decide +kernel
theorem zd_RE_countBehind_5 : decode zc_RE_countBehind 5 = .ok (.invokevirtual 46, 3) := by decide +kernel
theorem zd_RE_countBehind_8 : decode zc_RE_countBehind 8 = .ok (.ireturn, 1) := by decide +kernel
theorem zd_TA_count_0 : decode zc_TA_count 0 = .ok (.aload_n 0, 1) := by decide +kernel
theorem zd_TA_count_1 : decode zc_TA_count 1 = .ok (.iload_n 1, 1) := by decide +kernel
theorem zd_TA_count_2 : decode zc_TA_count 2 = .ok (.aload_n 0, 1) := by decide +kernel
theorem zd_TA_count_3 : decode zc_TA_count 3 = .ok (.iload_n 1, 1) := by decide +kernel
theorem zd_TA_count_4 : decode zc_TA_count 4 = .ok (.invokevirtual 27, 3) := by decide +kernel
theorem zd_TA_count_7 : decode zc_TA_count 7 = .ok (.ireturn, 1) := by decide +kernel
theorem zd_TA_countShared_0 : decode zc_TA_countShared 0 = .ok (.iconst 0, 1) := by decide +kernel
theorem zd_TA_countShared_1 : decode zc_TA_countShared 1 = .ok (.istore 4, 2) := by decide +kernel
theorem zd_TA_countShared_3 : decode zc_TA_countShared 3 = .ok (.iconst 0, 1) := by decide +kernel
theorem zd_TA_countShared_4 : decode zc_TA_countShared 4 = .ok (.istore 5, 2) := by decide +kernel
theorem zd_TA_countShared_6 : decode zc_TA_countShared 6 = .ok (.iload 5, 2) := by decide +kernel
theorem zd_TA_countShared_8 : decode zc_TA_countShared 8 = .ok (.iconst 3, 1) := by decide +kernel
theorem zd_TA_countShared_9 : decode zc_TA_countShared 9 = .ok (.if_icmp .ge 40, 3) := by decide +kernel
theorem zd_TA_countShared_12 : decode zc_TA_countShared 12 = .ok (.iload 4, 2) := by decide +kernel
theorem zd_TA_countShared_14 : decode zc_TA_countShared 14 = .ok (.aload_n 0, 1) := by decide +kernel
theorem zd_TA_countShared_15 : decode zc_TA_countShared 15 = .ok (.getfield 11, 3) := by decide +kernel
theorem zd_TA_countShared_18 : decode zc_TA_countShared 18 = .ok (.iload_n 1, 1) := by decide +kernel
theorem zd_TA_countShared_19 : decode zc_TA_countShared 19 = .ok (.iconst 3, 1) := by decide +kernel
theorem zd_TA_countShared_20 : decode zc_TA_countShared 20 = .ok (.imul, 1) := by decide +kernel
theorem zd_TA_countShared_21 : decode zc_TA_countShared 21 = .ok (.iload 5, 2) := by decide +kernel
theorem zd_TA_countShared_23 : decode zc_TA_countShared 23 = .ok (.iadd, 1) := by decide +kernel
theorem zd_TA_countShared_24 : decode zc_TA_countShared 24 = .ok (.laload, 1) := by decide +kernel
theorem zd_TA_countShared_25 : decode zc_TA_countShared 25 = .ok (.aload_n 2, 1) := by decide +kernel
theorem zd_TA_countShared_26 : decode zc_TA_countShared 26 = .ok (.getfield 11, 3) := by decide +kernel
theorem zd_TA_countShared_29 : decode zc_TA_countShared 29 = .ok (.iload_n 3, 1) := by decide +kernel
theorem zd_TA_countShared_30 : decode zc_TA_countShared 30 = .ok (.iconst 3, 1) := by decide +kernel
theorem zd_TA_countShared_31 : decode zc_TA_countShared 31 = .ok (.imul, 1) := by decide +kernel
theorem zd_TA_countShared_32 : decode zc_TA_countShared 32 = .ok (.iload 5, 2) := by decide +kernel
theorem zd_TA_countShared_34 : decode zc_TA_countShared 34 = .ok (.iadd, 1) := by decide +kernel
theorem zd_TA_countShared_35 : decode zc_TA_countShared 35 = .ok (.laload, 1) := by decide +kernel
theorem zd_TA_countShared_36 : decode zc_TA_countShared 36 = .ok (.land, 1) := by decide +kernel
theorem zd_TA_countShared_37 : decode zc_TA_countShared 37 = .ok (.invokestatic 31, 3) := by decide +kernel
theorem zd_TA_countShared_40 : decode zc_TA_countShared 40 = .ok (.iadd, 1) := by decide +kernel
theorem zd_TA_countShared_41 : decode zc_TA_countShared 41 = .ok (.istore 4, 2) := by decide +kernel
theorem zd_TA_countShared_43 : decode zc_TA_countShared 43 = .ok (.iinc 5 1, 3) := by decide +kernel
theorem zd_TA_countShared_46 : decode zc_TA_countShared 46 = .ok (.goto (-40), 3) := by decide +kernel
theorem zd_TA_countShared_49 : decode zc_TA_countShared 49 = .ok (.iload 4, 2) := by decide +kernel
theorem zd_TA_countShared_51 : decode zc_TA_countShared 51 = .ok (.ireturn, 1) := by decide +kernel
theorem zd_RE_knotSize_0 : decode zc_RE_knotSize 0 = .ok (.aload_n 0, 1) := by decide +kernel
theorem zd_RE_knotSize_1 : decode zc_RE_knotSize 1 = .ok (.getfield 14, 3) := by decide +kernel
theorem zd_RE_knotSize_4 : decode zc_RE_knotSize 4 = .ok (.iload_n 1, 1) := by decide +kernel
theorem zd_RE_knotSize_5 : decode zc_RE_knotSize 5 = .ok (.aload_n 0, 1) := by decide +kernel
theorem zd_RE_knotSize_6 : decode zc_RE_knotSize 6 = .ok (.getfield 20, 3) := by decide +kernel
theorem zd_RE_knotSize_9 : decode zc_RE_knotSize 9 = .ok (.iload_n 1, 1) := by decide +kernel
theorem zd_RE_knotSize_10 : decode zc_RE_knotSize 10 = .ok (.invokevirtual 50, 3) := by decide +kernel
theorem zd_RE_knotSize_13 : decode zc_RE_knotSize 13 = .ok (.ireturn, 1) := by decide +kernel
theorem zd_PA_giveNumbers_0 : decode zc_PA_giveNumbers 0 = .ok (.aload_n 0, 1) := by decide +kernel
theorem zd_PA_giveNumbers_1 : decode zc_PA_giveNumbers 1 = .ok (.iconst 0, 1) := by decide +kernel
theorem zd_PA_giveNumbers_2 : decode zc_PA_giveNumbers 2 = .ok (.putfield 73, 3) := by decide +kernel
theorem zd_PA_giveNumbers_5 : decode zc_PA_giveNumbers 5 = .ok (.iconst 0, 1) := by decide +kernel
theorem zd_PA_giveNumbers_6 : decode zc_PA_giveNumbers 6 = .ok (.istore_n 1, 1) := by decide +kernel
theorem zd_PA_giveNumbers_7 : decode zc_PA_giveNumbers 7 = .ok (.iload_n 1, 1) := by decide +kernel
theorem zd_PA_giveNumbers_8 : decode zc_PA_giveNumbers 8 = .ok (.aload_n 0, 1) := by decide +kernel
theorem zd_PA_giveNumbers_9 : decode zc_PA_giveNumbers 9 = .ok (.getfield 33, 3) := by decide +kernel
theorem zd_PA_giveNumbers_12 : decode zc_PA_giveNumbers 12 = .ok (.getfield 61, 3) := by decide +kernel
theorem zd_PA_giveNumbers_15 : decode zc_PA_giveNumbers 15 = .ok (.if_icmp .ge 27, 3) := by decide +kernel
theorem zd_PA_giveNumbers_18 : decode zc_PA_giveNumbers 18 = .ok (.aload_n 0, 1) := by decide +kernel
theorem zd_PA_giveNumbers_19 : decode zc_PA_giveNumbers 19 = .ok (.invokevirtual 76, 3) := by decide +kernel
theorem zd_PA_giveNumbers_22 : decode zc_PA_giveNumbers 22 = .ok (.istore_n 2, 1) := by decide +kernel
theorem zd_PA_giveNumbers_23 : decode zc_PA_giveNumbers 23 = .ok (.iload_n 2, 1) := by decide +kernel
theorem zd_PA_giveNumbers_24 : decode zc_PA_giveNumbers 24 = .ok (.iconst (-1), 1) := by decide +kernel
theorem zd_PA_giveNumbers_25 : decode zc_PA_giveNumbers 25 = .ok (.if_icmp .ne 6, 3) := by decide +kernel
theorem zd_PA_giveNumbers_28 : decode zc_PA_giveNumbers 28 = .ok (.goto 14, 3) := by decide +kernel
theorem zd_PA_giveNumbers_31 : decode zc_PA_giveNumbers 31 = .ok (.aload_n 0, 1) := by decide +kernel
theorem zd_PA_giveNumbers_32 : decode zc_PA_giveNumbers 32 = .ok (.iload_n 2, 1) := by decide +kernel
theorem zd_PA_giveNumbers_33 : decode zc_PA_giveNumbers 33 = .ok (.invokevirtual 80, 3) := by decide +kernel
theorem zd_PA_giveNumbers_36 : decode zc_PA_giveNumbers 36 = .ok (.iinc 1 1, 3) := by decide +kernel
theorem zd_PA_giveNumbers_39 : decode zc_PA_giveNumbers 39 = .ok (.goto (-32), 3) := by decide +kernel
theorem zd_PA_giveNumbers_42 : decode zc_PA_giveNumbers 42 = .ok (.return_, 1) := by decide +kernel
theorem zd_PA_leastReady_0 : decode zc_PA_leastReady 0 = .ok (.iconst 0, 1) := by decide +kernel
theorem zd_PA_leastReady_1 : decode zc_PA_leastReady 1 = .ok (.istore_n 1, 1) := by decide +kernel
theorem zd_PA_leastReady_2 : decode zc_PA_leastReady 2 = .ok (.iload_n 1, 1) := by decide +kernel
theorem zd_PA_leastReady_3 : decode zc_PA_leastReady 3 = .ok (.aload_n 0, 1) := by decide +kernel
theorem zd_PA_leastReady_4 : decode zc_PA_leastReady 4 = .ok (.getfield 33, 3) := by decide +kernel
theorem zd_PA_leastReady_7 : decode zc_PA_leastReady 7 = .ok (.getfield 61, 3) := by decide +kernel
theorem zd_PA_leastReady_10 : decode zc_PA_leastReady 10 = .ok (.if_icmp .ge 30, 3) := by decide +kernel
theorem zd_PA_leastReady_13 : decode zc_PA_leastReady 13 = .ok (.aload_n 0, 1) := by decide +kernel
theorem zd_PA_leastReady_14 : decode zc_PA_leastReady 14 = .ok (.getfield 37, 3) := by decide +kernel
theorem zd_PA_leastReady_17 : decode zc_PA_leastReady 17 = .ok (.iload_n 1, 1) := by decide +kernel
theorem zd_PA_leastReady_18 : decode zc_PA_leastReady 18 = .ok (.iaload, 1) := by decide +kernel
theorem zd_PA_leastReady_19 : decode zc_PA_leastReady 19 = .ok (.iconst (-1), 1) := by decide +kernel
theorem zd_PA_leastReady_20 : decode zc_PA_leastReady 20 = .ok (.if_icmp .ne 14, 3) := by decide +kernel
theorem zd_PA_leastReady_23 : decode zc_PA_leastReady 23 = .ok (.aload_n 0, 1) := by decide +kernel
theorem zd_PA_leastReady_24 : decode zc_PA_leastReady 24 = .ok (.getfield 9, 3) := by decide +kernel
theorem zd_PA_leastReady_27 : decode zc_PA_leastReady 27 = .ok (.iload_n 1, 1) := by decide +kernel
theorem zd_PA_leastReady_28 : decode zc_PA_leastReady 28 = .ok (.iaload, 1) := by decide +kernel
theorem zd_PA_leastReady_29 : decode zc_PA_leastReady 29 = .ok (.ifCond .ne 5, 3) := by decide +kernel
theorem zd_PA_leastReady_32 : decode zc_PA_leastReady 32 = .ok (.iload_n 1, 1) := by decide +kernel
theorem zd_PA_leastReady_33 : decode zc_PA_leastReady 33 = .ok (.ireturn, 1) := by decide +kernel
theorem zd_PA_leastReady_34 : decode zc_PA_leastReady 34 = .ok (.iinc 1 1, 3) := by decide +kernel
theorem zd_PA_leastReady_37 : decode zc_PA_leastReady 37 = .ok (.goto (-35), 3) := by decide +kernel
theorem zd_PA_leastReady_40 : decode zc_PA_leastReady 40 = .ok (.iconst (-1), 1) := by decide +kernel
theorem zd_PA_leastReady_41 : decode zc_PA_leastReady 41 = .ok (.ireturn, 1) := by decide +kernel
theorem zd_PA_giveNumber_0 : decode zc_PA_giveNumber 0 = .ok (.aload_n 0, 1) := by decide +kernel
theorem zd_PA_giveNumber_1 : decode zc_PA_giveNumber 1 = .ok (.getfield 33, 3) := by decide +kernel
theorem zd_PA_giveNumber_4 : decode zc_PA_giveNumber 4 = .ok (.getfield 83, 3) := by decide +kernel
theorem zd_PA_giveNumber_7 : decode zc_PA_giveNumber 7 = .ok (.iload_n 1, 1) := by decide +kernel
theorem zd_PA_giveNumber_8 : decode zc_PA_giveNumber 8 = .ok (.invokevirtual 70, 3) := by decide +kernel
theorem zd_PA_giveNumber_11 : decode zc_PA_giveNumber 11 = .ok (.istore_n 2, 1) := by decide +kernel
theorem zd_PA_giveNumber_12 : decode zc_PA_giveNumber 12 = .ok (.aload_n 0, 1) := by decide +kernel
theorem zd_PA_giveNumber_13 : decode zc_PA_giveNumber 13 = .ok (.getfield 33, 3) := by decide +kernel
theorem zd_PA_giveNumber_16 : decode zc_PA_giveNumber 16 = .ok (.getfield 83, 3) := by decide +kernel
theorem zd_PA_giveNumber_19 : decode zc_PA_giveNumber 19 = .ok (.iload_n 1, 1) := by decide +kernel
theorem zd_PA_giveNumber_20 : decode zc_PA_giveNumber 20 = .ok (.aload_n 0, 1) := by decide +kernel
theorem zd_PA_giveNumber_21 : decode zc_PA_giveNumber 21 = .ok (.getfield 18, 3) := by decide +kernel
theorem zd_PA_giveNumber_24 : decode zc_PA_giveNumber 24 = .ok (.invokevirtual 87, 3) := by decide +kernel
theorem zd_PA_giveNumber_27 : decode zc_PA_giveNumber 27 = .ok (.istore_n 3, 1) := by decide +kernel
theorem zd_PA_giveNumber_28 : decode zc_PA_giveNumber 28 = .ok (.iconst 0, 1) := by decide +kernel
theorem zd_PA_giveNumber_29 : decode zc_PA_giveNumber 29 = .ok (.istore 4, 2) := by decide +kernel
theorem zd_PA_giveNumber_31 : decode zc_PA_giveNumber 31 = .ok (.iload 4, 2) := by decide +kernel
theorem zd_PA_giveNumber_33 : decode zc_PA_giveNumber 33 = .ok (.iload_n 3, 1) := by decide +kernel
theorem zd_PA_giveNumber_34 : decode zc_PA_giveNumber 34 = .ok (.if_icmp .ge 65, 3) := by decide +kernel
theorem zd_PA_giveNumber_37 : decode zc_PA_giveNumber 37 = .ok (.aload_n 0, 1) := by decide +kernel
theorem zd_PA_giveNumber_38 : decode zc_PA_giveNumber 38 = .ok (.getfield 33, 3) := by decide +kernel
theorem zd_PA_giveNumber_41 : decode zc_PA_giveNumber 41 = .ok (.getfield 83, 3) := by decide +kernel
theorem zd_PA_giveNumber_44 : decode zc_PA_giveNumber 44 = .ok (.iload_n 1, 1) := by decide +kernel
theorem zd_PA_giveNumber_45 : decode zc_PA_giveNumber 45 = .ok (.aload_n 0, 1) := by decide +kernel
theorem zd_PA_giveNumber_46 : decode zc_PA_giveNumber 46 = .ok (.getfield 18, 3) := by decide +kernel
theorem zd_PA_giveNumber_49 : decode zc_PA_giveNumber 49 = .ok (.iload 4, 2) := by decide +kernel
theorem zd_PA_giveNumber_51 : decode zc_PA_giveNumber 51 = .ok (.iaload, 1) := by decide +kernel
theorem zd_PA_giveNumber_52 : decode zc_PA_giveNumber 52 = .ok (.invokevirtual 91, 3) := by decide +kernel
theorem zd_PA_giveNumber_55 : decode zc_PA_giveNumber 55 = .ok (.ifCond .eq 22, 3) := by decide +kernel
theorem zd_PA_giveNumber_58 : decode zc_PA_giveNumber 58 = .ok (.aload_n 0, 1) := by decide +kernel
theorem zd_PA_giveNumber_59 : decode zc_PA_giveNumber 59 = .ok (.getfield 37, 3) := by decide +kernel
theorem zd_PA_giveNumber_62 : decode zc_PA_giveNumber 62 = .ok (.aload_n 0, 1) := by decide +kernel
theorem zd_PA_giveNumber_63 : decode zc_PA_giveNumber 63 = .ok (.getfield 18, 3) := by decide +kernel
theorem zd_PA_giveNumber_66 : decode zc_PA_giveNumber 66 = .ok (.iload 4, 2) := by decide +kernel
theorem zd_PA_giveNumber_68 : decode zc_PA_giveNumber 68 = .ok (.iaload, 1) := by decide +kernel
theorem zd_PA_giveNumber_69 : decode zc_PA_giveNumber 69 = .ok (.aload_n 0, 1) := by decide +kernel
theorem zd_PA_giveNumber_70 : decode zc_PA_giveNumber 70 = .ok (.getfield 73, 3) := by decide +kernel
theorem zd_PA_giveNumber_73 : decode zc_PA_giveNumber 73 = .ok (.iastore, 1) := by decide +kernel
theorem zd_PA_giveNumber_74 : decode zc_PA_giveNumber 74 = .ok (.goto 19, 3) := by decide +kernel
theorem zd_PA_giveNumber_77 : decode zc_PA_giveNumber 77 = .ok (.aload_n 0, 1) := by decide +kernel
theorem zd_PA_giveNumber_78 : decode zc_PA_giveNumber 78 = .ok (.getfield 9, 3) := by decide +kernel
theorem zd_PA_giveNumber_81 : decode zc_PA_giveNumber 81 = .ok (.aload_n 0, 1) := by decide +kernel
theorem zd_PA_giveNumber_82 : decode zc_PA_giveNumber 82 = .ok (.getfield 18, 3) := by decide +kernel
theorem zd_PA_giveNumber_85 : decode zc_PA_giveNumber 85 = .ok (.iload 4, 2) := by decide +kernel
theorem zd_PA_giveNumber_87 : decode zc_PA_giveNumber 87 = .ok (.iaload, 1) := by decide +kernel
theorem zd_PA_giveNumber_88 : decode zc_PA_giveNumber 88 = .ok (.dup2, 1) := by decide +kernel
theorem zd_PA_giveNumber_89 : decode zc_PA_giveNumber 89 = .ok (.iaload, 1) := by decide +kernel
theorem zd_PA_giveNumber_90 : decode zc_PA_giveNumber 90 = .ok (.iload_n 2, 1) := by decide +kernel
theorem zd_PA_giveNumber_91 : decode zc_PA_giveNumber 91 = .ok (.isub, 1) := by decide +kernel
theorem zd_PA_giveNumber_92 : decode zc_PA_giveNumber 92 = .ok (.iastore, 1) := by decide +kernel
theorem zd_PA_giveNumber_93 : decode zc_PA_giveNumber 93 = .ok (.iinc 4 1, 3) := by decide +kernel
theorem zd_PA_giveNumber_96 : decode zc_PA_giveNumber 96 = .ok (.goto (-65), 3) := by decide +kernel
theorem zd_PA_giveNumber_99 : decode zc_PA_giveNumber 99 = .ok (.aload_n 0, 1) := by decide +kernel
theorem zd_PA_giveNumber_100 : decode zc_PA_giveNumber 100 = .ok (.getfield 40, 3) := by decide +kernel
theorem zd_PA_giveNumber_103 : decode zc_PA_giveNumber 103 = .ok (.aload_n 0, 1) := by decide +kernel
theorem zd_PA_giveNumber_104 : decode zc_PA_giveNumber 104 = .ok (.getfield 73, 3) := by decide +kernel
theorem zd_PA_giveNumber_107 : decode zc_PA_giveNumber 107 = .ok (.iload_n 1, 1) := by decide +kernel
theorem zd_PA_giveNumber_108 : decode zc_PA_giveNumber 108 = .ok (.iastore, 1) := by decide +kernel
theorem zd_PA_giveNumber_109 : decode zc_PA_giveNumber 109 = .ok (.aload_n 0, 1) := by decide +kernel
theorem zd_PA_giveNumber_110 : decode zc_PA_giveNumber 110 = .ok (.dup, 1) := by decide +kernel
theorem zd_PA_giveNumber_111 : decode zc_PA_giveNumber 111 = .ok (.getfield 73, 3) := by decide +kernel
theorem zd_PA_giveNumber_114 : decode zc_PA_giveNumber 114 = .ok (.iconst 1, 1) := by decide +kernel
theorem zd_PA_giveNumber_115 : decode zc_PA_giveNumber 115 = .ok (.iadd, 1) := by decide +kernel
theorem zd_PA_giveNumber_116 : decode zc_PA_giveNumber 116 = .ok (.putfield 73, 3) := by decide +kernel
theorem zd_PA_giveNumber_119 : decode zc_PA_giveNumber 119 = .ok (.return_, 1) := by decide +kernel
theorem zd_RE_listAhead_0 : decode zc_RE_listAhead 0 = .ok (.aload_n 0, 1) := by decide +kernel
theorem zd_RE_listAhead_1 : decode zc_RE_listAhead 1 = .ok (.getfield 14, 3) := by decide +kernel
theorem zd_RE_listAhead_4 : decode zc_RE_listAhead 4 = .ok (.iload_n 1, 1) := by decide +kernel
theorem zd_RE_listAhead_5 : decode zc_RE_listAhead 5 = .ok (.aload_n 2, 1) := by decide +kernel
theorem zd_RE_listAhead_6 : decode zc_RE_listAhead 6 = .ok (.iconst 0, 1) := by decide +kernel
theorem zd_RE_listAhead_7 : decode zc_RE_listAhead 7 = .ok (.invokevirtual 38, 3) := by decide +kernel
theorem zd_RE_listAhead_10 : decode zc_RE_listAhead 10 = .ok (.ireturn, 1) := by decide +kernel
theorem zd_RE_inOneKnot_0 : decode zc_RE_inOneKnot 0 = .ok (.aload_n 0, 1) := by decide +kernel
theorem zd_RE_inOneKnot_1 : decode zc_RE_inOneKnot 1 = .ok (.getfield 14, 3) := by decide +kernel
theorem zd_RE_inOneKnot_4 : decode zc_RE_inOneKnot 4 = .ok (.iload_n 1, 1) := by decide +kernel
theorem zd_RE_inOneKnot_5 : decode zc_RE_inOneKnot 5 = .ok (.iload_n 2, 1) := by decide +kernel
theorem zd_RE_inOneKnot_6 : decode zc_RE_inOneKnot 6 = .ok (.invokevirtual 34, 3) := by decide +kernel
theorem zd_RE_inOneKnot_9 : decode zc_RE_inOneKnot 9 = .ok (.ifCond .eq 19, 3) := by decide +kernel
theorem zd_RE_inOneKnot_12 : decode zc_RE_inOneKnot 12 = .ok (.aload_n 0, 1) := by decide +kernel
theorem zd_RE_inOneKnot_13 : decode zc_RE_inOneKnot 13 = .ok (.getfield 20, 3) := by decide +kernel
theorem zd_RE_inOneKnot_16 : decode zc_RE_inOneKnot 16 = .ok (.iload_n 1, 1) := by decide +kernel
theorem zd_RE_inOneKnot_17 : decode zc_RE_inOneKnot 17 = .ok (.iload_n 2, 1) := by decide +kernel
theorem zd_RE_inOneKnot_18 : decode zc_RE_inOneKnot 18 = .ok (.invokevirtual 34, 3) := by decide +kernel
theorem zd_RE_inOneKnot_21 : decode zc_RE_inOneKnot 21 = .ok (.ifCond .eq 7, 3) := by decide +kernel
theorem zd_RE_inOneKnot_24 : decode zc_RE_inOneKnot 24 = .ok (.iconst 1, 1) := by decide +kernel
theorem zd_RE_inOneKnot_25 : decode zc_RE_inOneKnot 25 = .ok (.goto 4, 3) := by decide +kernel
theorem zd_RE_inOneKnot_28 : decode zc_RE_inOneKnot 28 = .ok (.iconst 0, 1) := by decide +kernel
theorem zd_RE_inOneKnot_29 : decode zc_RE_inOneKnot 29 = .ok (.ireturn, 1) := by decide +kernel
theorem zd_CG_missing_0 : decode zc_CG_missing 0 = .ok (.aload_n 0, 1) := by decide +kernel
theorem zd_CG_missing_1 : decode zc_CG_missing 1 = .ok (.getfield 10, 3) := by decide +kernel
theorem zd_CG_missing_4 : decode zc_CG_missing 4 = .ok (.invokevirtual 52, 3) := by decide +kernel
theorem zd_CG_missing_7 : decode zc_CG_missing 7 = .ok (.invokevirtual 113, 3) := by decide +kernel
theorem zd_CG_missing_10 : decode zc_CG_missing 10 = .ok (.ireturn, 1) := by decide +kernel
theorem zd_PA_arcsToOnePart_0 : decode zc_PA_arcsToOnePart 0 = .ok (.aload_n 0, 1) := by decide +kernel
theorem zd_PA_arcsToOnePart_1 : decode zc_PA_arcsToOnePart 1 = .ok (.getfield 73, 3) := by decide +kernel
theorem zd_PA_arcsToOnePart_4 : decode zc_PA_arcsToOnePart 4 = .ok (.iconst 1, 1) := by decide +kernel
theorem zd_PA_arcsToOnePart_5 : decode zc_PA_arcsToOnePart 5 = .ok (.if_icmp .ne 5, 3) := by decide +kernel
theorem zd_PA_arcsToOnePart_8 : decode zc_PA_arcsToOnePart 8 = .ok (.iconst 0, 1) := by decide +kernel
theorem zd_PA_arcsToOnePart_9 : decode zc_PA_arcsToOnePart 9 = .ok (.ireturn, 1) := by decide +kernel
theorem zd_PA_arcsToOnePart_10 : decode zc_PA_arcsToOnePart 10 = .ok (.iconst 0, 1) := by decide +kernel
theorem zd_PA_arcsToOnePart_11 : decode zc_PA_arcsToOnePart 11 = .ok (.istore_n 1, 1) := by decide +kernel
theorem zd_PA_arcsToOnePart_12 : decode zc_PA_arcsToOnePart 12 = .ok (.iconst 0, 1) := by decide +kernel
theorem zd_PA_arcsToOnePart_13 : decode zc_PA_arcsToOnePart 13 = .ok (.istore_n 2, 1) := by decide +kernel
theorem zd_PA_arcsToOnePart_14 : decode zc_PA_arcsToOnePart 14 = .ok (.iconst 0, 1) := by decide +kernel
theorem zd_PA_arcsToOnePart_15 : decode zc_PA_arcsToOnePart 15 = .ok (.istore_n 3, 1) := by decide +kernel
theorem zd_PA_arcsToOnePart_16 : decode zc_PA_arcsToOnePart 16 = .ok (.iload_n 3, 1) := by decide +kernel
theorem zd_PA_arcsToOnePart_17 : decode zc_PA_arcsToOnePart 17 = .ok (.aload_n 0, 1) := by decide +kernel
theorem zd_PA_arcsToOnePart_18 : decode zc_PA_arcsToOnePart 18 = .ok (.getfield 73, 3) := by decide +kernel
theorem zd_PA_arcsToOnePart_21 : decode zc_PA_arcsToOnePart 21 = .ok (.if_icmp .ge 64, 3) := by decide +kernel
theorem zd_PA_arcsToOnePart_24 : decode zc_PA_arcsToOnePart 24 = .ok (.aload_n 0, 1) := by decide +kernel
theorem zd_PA_arcsToOnePart_25 : decode zc_PA_arcsToOnePart 25 = .ok (.iload_n 3, 1) := by decide +kernel
theorem zd_PA_arcsToOnePart_26 : decode zc_PA_arcsToOnePart 26 = .ok (.invokevirtual 129, 3) := by decide +kernel
theorem zd_PA_arcsToOnePart_29 : decode zc_PA_arcsToOnePart 29 = .ok (.istore 4, 2) := by decide +kernel
theorem zd_PA_arcsToOnePart_31 : decode zc_PA_arcsToOnePart 31 = .ok (.aload_n 0, 1) := by decide +kernel
theorem zd_PA_arcsToOnePart_32 : decode zc_PA_arcsToOnePart 32 = .ok (.getfield 33, 3) := by decide +kernel
theorem zd_PA_arcsToOnePart_35 : decode zc_PA_arcsToOnePart 35 = .ok (.getfield 83, 3) := by decide +kernel
theorem zd_PA_arcsToOnePart_38 : decode zc_PA_arcsToOnePart 38 = .ok (.aload_n 0, 1) := by decide +kernel
theorem zd_PA_arcsToOnePart_39 : decode zc_PA_arcsToOnePart 39 = .ok (.getfield 40, 3) := by decide +kernel
theorem zd_PA_arcsToOnePart_42 : decode zc_PA_arcsToOnePart 42 = .ok (.iload_n 3, 1) := by decide +kernel
theorem zd_PA_arcsToOnePart_43 : decode zc_PA_arcsToOnePart 43 = .ok (.iaload, 1) := by decide +kernel
theorem zd_PA_arcsToOnePart_44 : decode zc_PA_arcsToOnePart 44 = .ok (.invokevirtual 64, 3) := by decide +kernel
theorem zd_PA_arcsToOnePart_47 : decode zc_PA_arcsToOnePart 47 = .ok (.iload 4, 2) := by decide +kernel
theorem zd_PA_arcsToOnePart_49 : decode zc_PA_arcsToOnePart 49 = .ok (.if_icmp .ne 6, 3) := by decide +kernel
theorem zd_PA_arcsToOnePart_52 : decode zc_PA_arcsToOnePart 52 = .ok (.iinc 1 1, 3) := by decide +kernel
theorem zd_PA_arcsToOnePart_55 : decode zc_PA_arcsToOnePart 55 = .ok (.aload_n 0, 1) := by decide +kernel
theorem zd_PA_arcsToOnePart_56 : decode zc_PA_arcsToOnePart 56 = .ok (.getfield 33, 3) := by decide +kernel
theorem zd_PA_arcsToOnePart_59 : decode zc_PA_arcsToOnePart 59 = .ok (.getfield 83, 3) := by decide +kernel
theorem zd_PA_arcsToOnePart_62 : decode zc_PA_arcsToOnePart 62 = .ok (.aload_n 0, 1) := by decide +kernel
theorem zd_PA_arcsToOnePart_63 : decode zc_PA_arcsToOnePart 63 = .ok (.getfield 40, 3) := by decide +kernel
theorem zd_PA_arcsToOnePart_66 : decode zc_PA_arcsToOnePart 66 = .ok (.iload_n 3, 1) := by decide +kernel
theorem zd_PA_arcsToOnePart_67 : decode zc_PA_arcsToOnePart 67 = .ok (.iaload, 1) := by decide +kernel
theorem zd_PA_arcsToOnePart_68 : decode zc_PA_arcsToOnePart 68 = .ok (.invokevirtual 132, 3) := by decide +kernel
theorem zd_PA_arcsToOnePart_71 : decode zc_PA_arcsToOnePart 71 = .ok (.iload 4, 2) := by decide +kernel
theorem zd_PA_arcsToOnePart_73 : decode zc_PA_arcsToOnePart 73 = .ok (.if_icmp .ne 6, 3) := by decide +kernel
theorem zd_PA_arcsToOnePart_76 : decode zc_PA_arcsToOnePart 76 = .ok (.iinc 2 1, 3) := by decide +kernel
theorem zd_PA_arcsToOnePart_79 : decode zc_PA_arcsToOnePart 79 = .ok (.iinc 3 1, 3) := by decide +kernel
theorem zd_PA_arcsToOnePart_82 : decode zc_PA_arcsToOnePart 82 = .ok (.goto (-66), 3) := by decide +kernel
theorem zd_PA_arcsToOnePart_85 : decode zc_PA_arcsToOnePart 85 = .ok (.iload_n 1, 1) := by decide +kernel
theorem zd_PA_arcsToOnePart_86 : decode zc_PA_arcsToOnePart 86 = .ok (.iload_n 2, 1) := by decide +kernel
theorem zd_PA_arcsToOnePart_87 : decode zc_PA_arcsToOnePart 87 = .ok (.invokestatic 123, 3) := by decide +kernel
theorem zd_PA_arcsToOnePart_90 : decode zc_PA_arcsToOnePart 90 = .ok (.ireturn, 1) := by decide +kernel
theorem zd_PA_sizeOf_0 : decode zc_PA_sizeOf 0 = .ok (.aload_n 0, 1) := by decide +kernel
theorem zd_PA_sizeOf_1 : decode zc_PA_sizeOf 1 = .ok (.getfield 33, 3) := by decide +kernel
theorem zd_PA_sizeOf_4 : decode zc_PA_sizeOf 4 = .ok (.getfield 83, 3) := by decide +kernel
theorem zd_PA_sizeOf_7 : decode zc_PA_sizeOf 7 = .ok (.aload_n 0, 1) := by decide +kernel
theorem zd_PA_sizeOf_8 : decode zc_PA_sizeOf 8 = .ok (.getfield 40, 3) := by decide +kernel
theorem zd_PA_sizeOf_11 : decode zc_PA_sizeOf 11 = .ok (.iload_n 1, 1) := by decide +kernel
theorem zd_PA_sizeOf_12 : decode zc_PA_sizeOf 12 = .ok (.iaload, 1) := by decide +kernel
theorem zd_PA_sizeOf_13 : decode zc_PA_sizeOf 13 = .ok (.invokevirtual 70, 3) := by decide +kernel
theorem zd_PA_sizeOf_16 : decode zc_PA_sizeOf 16 = .ok (.ireturn, 1) := by decide +kernel
theorem zd_RE_countAhead_0 : decode zc_RE_countAhead 0 = .ok (.aload_n 0, 1) := by decide +kernel
theorem zd_RE_countAhead_1 : decode zc_RE_countAhead 1 = .ok (.getfield 14, 3) := by decide +kernel
theorem zd_RE_countAhead_4 : decode zc_RE_countAhead 4 = .ok (.iload_n 1, 1) := by decide +kernel
theorem zd_RE_countAhead_5 : decode zc_RE_countAhead 5 = .ok (.invokevirtual 46, 3) := by decide +kernel
theorem zd_RE_countAhead_8 : decode zc_RE_countAhead 8 = .ok (.ireturn, 1) := by decide +kernel
theorem zd_MA_max_0 : decode zc_MA_max 0 = .ok (.iload_n 0, 1) := by decide +kernel
theorem zd_MA_max_1 : decode zc_MA_max 1 = .ok (.iload_n 1, 1) := by decide +kernel
theorem zd_MA_max_2 : decode zc_MA_max 2 = .ok (.if_icmp .lt 7, 3) := by decide +kernel
theorem zd_MA_max_5 : decode zc_MA_max 5 = .ok (.iload_n 0, 1) := by decide +kernel
theorem zd_MA_max_6 : decode zc_MA_max 6 = .ok (.goto 4, 3) := by decide +kernel
theorem zd_MA_max_9 : decode zc_MA_max 9 = .ok (.iload_n 1, 1) := by decide +kernel
theorem zd_MA_max_10 : decode zc_MA_max 10 = .ok (.ireturn, 1) := by decide +kernel
theorem zd_CG_can_0 : decode zc_CG_can 0 = .ok (.aload_n 0, 1) := by decide +kernel
theorem zd_CG_can_1 : decode zc_CG_can 1 = .ok (.getfield 24, 3) := by decide +kernel
theorem zd_CG_can_4 : decode zc_CG_can 4 = .ok (.invokevirtual 132, 3) := by decide +kernel
theorem zd_CG_can_7 : decode zc_CG_can 7 = .ok (.iconst (-1), 1) := by decide +kernel
theorem zd_CG_can_8 : decode zc_CG_can 8 = .ok (.if_icmp .ne 7, 3) := by decide +kernel
theorem zd_CG_can_11 : decode zc_CG_can 11 = .ok (.iconst 1, 1) := by decide +kernel
theorem zd_CG_can_12 : decode zc_CG_can 12 = .ok (.goto 4, 3) := by decide +kernel
theorem zd_CG_can_15 : decode zc_CG_can 15 = .ok (.iconst 0, 1) := by decide +kernel
theorem zd_CG_can_16 : decode zc_CG_can 16 = .ok (.ireturn, 1) := by decide +kernel
theorem zd_CR_failing_0 : decode zc_CR_failing 0 = .ok (.aload_n 0, 1) := by decide +kernel
theorem zd_CR_failing_1 : decode zc_CR_failing 1 = .ok (.getfield 71, 3) := by decide +kernel
theorem zd_CR_failing_4 : decode zc_CR_failing 4 = .ok (.istore_n 1, 1) := by decide +kernel
theorem zd_CR_failing_5 : decode zc_CR_failing 5 = .ok (.iload_n 1, 1) := by decide +kernel
theorem zd_CR_failing_6 : decode zc_CR_failing 6 = .ok (.aload_n 0, 1) := by decide +kernel
theorem zd_CR_failing_7 : decode zc_CR_failing 7 = .ok (.getfield 51, 3) := by decide +kernel
theorem zd_CR_failing_10 : decode zc_CR_failing 10 = .ok (.if_icmp .ge 14, 3) := by decide +kernel
theorem zd_CR_failing_13 : decode zc_CR_failing 13 = .ok (.aload_n 0, 1) := by decide +kernel
theorem zd_CR_failing_14 : decode zc_CR_failing 14 = .ok (.iload_n 1, 1) := by decide +kernel
theorem zd_CR_failing_15 : decode zc_CR_failing 15 = .ok (.invokevirtual 77, 3) := by decide +kernel
theorem zd_CR_failing_18 : decode zc_CR_failing 18 = .ok (.iinc 1 1, 3) := by decide +kernel
theorem zd_CR_failing_21 : decode zc_CR_failing 21 = .ok (.goto (-16), 3) := by decide +kernel
theorem zd_CR_failing_24 : decode zc_CR_failing 24 = .ok (.aload_n 0, 1) := by decide +kernel
theorem zd_CR_failing_25 : decode zc_CR_failing 25 = .ok (.aload_n 0, 1) := by decide +kernel
theorem zd_CR_failing_26 : decode zc_CR_failing 26 = .ok (.getfield 51, 3) := by decide +kernel
theorem zd_CR_failing_29 : decode zc_CR_failing 29 = .ok (.putfield 71, 3) := by decide +kernel
theorem zd_CR_failing_32 : decode zc_CR_failing 32 = .ok (.aload_n 0, 1) := by decide +kernel
theorem zd_CR_failing_33 : decode zc_CR_failing 33 = .ok (.getfield 74, 3) := by decide +kernel
theorem zd_CR_failing_36 : decode zc_CR_failing 36 = .ok (.ireturn, 1) := by decide +kernel
theorem zd_CR_takeIn_0 : decode zc_CR_takeIn 0 = .ok (.aload_n 0, 1) := by decide +kernel
theorem zd_CR_takeIn_1 : decode zc_CR_takeIn 1 = .ok (.getfield 9, 3) := by decide +kernel
theorem zd_CR_takeIn_4 : decode zc_CR_takeIn 4 = .ok (.iload_n 1, 1) := by decide +kernel
theorem zd_CR_takeIn_5 : decode zc_CR_takeIn 5 = .ok (.iaload, 1) := by decide +kernel
theorem zd_CR_takeIn_6 : decode zc_CR_takeIn 6 = .ok (.istore_n 2, 1) := by decide +kernel
theorem zd_CR_takeIn_7 : decode zc_CR_takeIn 7 = .ok (.aload_n 0, 1) := by decide +kernel
theorem zd_CR_takeIn_8 : decode zc_CR_takeIn 8 = .ok (.getfield 15, 3) := by decide +kernel
theorem zd_CR_takeIn_11 : decode zc_CR_takeIn 11 = .ok (.iload_n 1, 1) := by decide +kernel
theorem zd_CR_takeIn_12 : decode zc_CR_takeIn 12 = .ok (.iaload, 1) := by decide +kernel
theorem zd_CR_takeIn_13 : decode zc_CR_takeIn 13 = .ok (.istore_n 3, 1) := by decide +kernel
theorem zd_CR_takeIn_14 : decode zc_CR_takeIn 14 = .ok (.aload_n 0, 1) := by decide +kernel
theorem zd_CR_takeIn_15 : decode zc_CR_takeIn 15 = .ok (.getfield 23, 3) := by decide +kernel
theorem zd_CR_takeIn_18 : decode zc_CR_takeIn 18 = .ok (.iload_n 2, 1) := by decide +kernel
theorem zd_CR_takeIn_19 : decode zc_CR_takeIn 19 = .ok (.invokestatic 80, 3) := by decide +kernel
theorem zd_CR_takeIn_22 : decode zc_CR_takeIn 22 = .ok (.iload_n 3, 1) := by decide +kernel
theorem zd_CR_takeIn_23 : decode zc_CR_takeIn 23 = .ok (.invokevirtual 84, 3) := by decide +kernel
theorem zd_CR_takeIn_26 : decode zc_CR_takeIn 26 = .ok (.aload_n 0, 1) := by decide +kernel
theorem zd_CR_takeIn_27 : decode zc_CR_takeIn 27 = .ok (.getfield 23, 3) := by decide +kernel
theorem zd_CR_takeIn_30 : decode zc_CR_takeIn 30 = .ok (.iload_n 3, 1) := by decide +kernel
theorem zd_CR_takeIn_31 : decode zc_CR_takeIn 31 = .ok (.invokestatic 80, 3) := by decide +kernel
theorem zd_CR_takeIn_34 : decode zc_CR_takeIn 34 = .ok (.iload_n 2, 1) := by decide +kernel
theorem zd_CR_takeIn_35 : decode zc_CR_takeIn 35 = .ok (.invokevirtual 84, 3) := by decide +kernel
theorem zd_CR_takeIn_38 : decode zc_CR_takeIn 38 = .ok (.aload_n 0, 1) := by decide +kernel
theorem zd_CR_takeIn_39 : decode zc_CR_takeIn 39 = .ok (.getfield 74, 3) := by decide +kernel
theorem zd_CR_takeIn_42 : decode zc_CR_takeIn 42 = .ok (.iconst (-1), 1) := by decide +kernel
theorem zd_CR_takeIn_43 : decode zc_CR_takeIn 43 = .ok (.if_icmp .eq 4, 3) := by decide +kernel
theorem zd_CR_takeIn_46 : decode zc_CR_takeIn 46 = .ok (.return_, 1) := by decide +kernel
theorem zd_CR_takeIn_47 : decode zc_CR_takeIn 47 = .ok (.aload_n 0, 1) := by decide +kernel
theorem zd_CR_takeIn_48 : decode zc_CR_takeIn 48 = .ok (.getfield 30, 3) := by decide +kernel
theorem zd_CR_takeIn_51 : decode zc_CR_takeIn 51 = .ok (.iload_n 2, 1) := by decide +kernel
theorem zd_CR_takeIn_52 : decode zc_CR_takeIn 52 = .ok (.invokestatic 80, 3) := by decide +kernel
theorem zd_CR_takeIn_55 : decode zc_CR_takeIn 55 = .ok (.iload_n 3, 1) := by decide +kernel
theorem zd_CR_takeIn_56 : decode zc_CR_takeIn 56 = .ok (.invokevirtual 88, 3) := by decide +kernel
theorem zd_CR_takeIn_59 : decode zc_CR_takeIn 59 = .ok (.aload_n 0, 1) := by decide +kernel
theorem zd_CR_takeIn_60 : decode zc_CR_takeIn 60 = .ok (.getfield 30, 3) := by decide +kernel
theorem zd_CR_takeIn_63 : decode zc_CR_takeIn 63 = .ok (.iload_n 3, 1) := by decide +kernel
theorem zd_CR_takeIn_64 : decode zc_CR_takeIn 64 = .ok (.invokestatic 80, 3) := by decide +kernel
theorem zd_CR_takeIn_67 : decode zc_CR_takeIn 67 = .ok (.iload_n 2, 1) := by decide +kernel
theorem zd_CR_takeIn_68 : decode zc_CR_takeIn 68 = .ok (.invokevirtual 88, 3) := by decide +kernel
theorem zd_CR_takeIn_71 : decode zc_CR_takeIn 71 = .ok (.aload_n 0, 1) := by decide +kernel
theorem zd_CR_takeIn_72 : decode zc_CR_takeIn 72 = .ok (.getfield 30, 3) := by decide +kernel
theorem zd_CR_takeIn_75 : decode zc_CR_takeIn 75 = .ok (.iload_n 2, 1) := by decide +kernel
theorem zd_CR_takeIn_76 : decode zc_CR_takeIn 76 = .ok (.iload_n 2, 1) := by decide +kernel
theorem zd_CR_takeIn_77 : decode zc_CR_takeIn 77 = .ok (.invokestatic 80, 3) := by decide +kernel
theorem zd_CR_takeIn_80 : decode zc_CR_takeIn 80 = .ok (.invokevirtual 91, 3) := by decide +kernel
theorem zd_CR_takeIn_83 : decode zc_CR_takeIn 83 = .ok (.ifCond .eq 10, 3) := by decide +kernel
theorem zd_CR_takeIn_86 : decode zc_CR_takeIn 86 = .ok (.aload_n 0, 1) := by decide +kernel
theorem zd_CR_takeIn_87 : decode zc_CR_takeIn 87 = .ok (.iload_n 1, 1) := by decide +kernel
theorem zd_CR_takeIn_88 : decode zc_CR_takeIn 88 = .ok (.iconst 1, 1) := by decide +kernel
theorem zd_CR_takeIn_89 : decode zc_CR_takeIn 89 = .ok (.iadd, 1) := by decide +kernel
theorem zd_CR_takeIn_90 : decode zc_CR_takeIn 90 = .ok (.putfield 74, 3) := by decide +kernel
theorem zd_CR_takeIn_93 : decode zc_CR_takeIn 93 = .ok (.return_, 1) := by decide +kernel
theorem zd_CG_opposite_0 : decode zc_CG_opposite 0 = .ok (.iload_n 0, 1) := by decide +kernel
theorem zd_CG_opposite_1 : decode zc_CG_opposite 1 = .ok (.iconst 1, 1) := by decide +kernel
theorem zd_CG_opposite_2 : decode zc_CG_opposite 2 = .ok (.ixor, 1) := by decide +kernel
theorem zd_CG_opposite_3 : decode zc_CG_opposite 3 = .ok (.ireturn, 1) := by decide +kernel
theorem zd_CG_fails_0 : decode zc_CG_fails 0 = .ok (.aload_n 0, 1) := by decide +kernel
theorem zd_CG_fails_1 : decode zc_CG_fails 1 = .ok (.getfield 24, 3) := by decide +kernel
theorem zd_CG_fails_4 : decode zc_CG_fails 4 = .ok (.invokevirtual 132, 3) := by decide +kernel
theorem zd_CG_fails_7 : decode zc_CG_fails 7 = .ok (.ireturn, 1) := by decide +kernel
theorem zd_CG_round_0 : decode zc_CG_round 0 = .ok (.aload_n 0, 1) := by decide +kernel
theorem zd_CG_round_1 : decode zc_CG_round 1 = .ok (.getfield 24, 3) := by decide +kernel
theorem zd_CG_round_4 : decode zc_CG_round 4 = .ok (.invokevirtual 154, 3) := by decide +kernel
theorem zd_CG_round_7 : decode zc_CG_round 7 = .ok (.aload_n 0, 1) := by decide +kernel
theorem zd_CG_round_8 : decode zc_CG_round 8 = .ok (.getfield 24, 3) := by decide +kernel
theorem zd_CG_round_11 : decode zc_CG_round 11 = .ok (.getfield 157, 3) := by decide +kernel
theorem zd_CG_round_14 : decode zc_CG_round 14 = .ok (.ireturn, 1) := by decide +kernel
theorem zd_CR_findRound_0 : decode zc_CR_findRound 0 = .ok (.aload_n 0, 1) := by decide +kernel
theorem zd_CR_findRound_1 : decode zc_CR_findRound 1 = .ok (.getfield 57, 3) := by decide +kernel
theorem zd_CR_findRound_4 : decode zc_CR_findRound 4 = .ok (.ifCond .eq 4, 3) := by decide +kernel
theorem zd_CR_findRound_7 : decode zc_CR_findRound 7 = .ok (.return_, 1) := by decide +kernel
theorem zd_CR_findRound_8 : decode zc_CR_findRound 8 = .ok (.aload_n 0, 1) := by decide +kernel
theorem zd_CR_findRound_9 : decode zc_CR_findRound 9 = .ok (.iconst (-1), 1) := by decide +kernel
theorem zd_CR_findRound_10 : decode zc_CR_findRound 10 = .ok (.putfield 115, 3) := by decide +kernel
theorem zd_CR_findRound_13 : decode zc_CR_findRound 13 = .ok (.aload_n 0, 1) := by decide +kernel
theorem zd_CR_findRound_14 : decode zc_CR_findRound 14 = .ok (.iconst (-1), 1) := by decide +kernel
theorem zd_CR_findRound_15 : decode zc_CR_findRound 15 = .ok (.putfield 118, 3) := by decide +kernel
theorem zd_CR_findRound_18 : decode zc_CR_findRound 18 = .ok (.aload_n 0, 1) := by decide +kernel
theorem zd_CR_findRound_19 : decode zc_CR_findRound 19 = .ok (.invokevirtual 121, 3) := by decide +kernel
theorem zd_CR_findRound_22 : decode zc_CR_findRound 22 = .ok (.iconst (-1), 1) := by decide +kernel
theorem zd_CR_findRound_23 : decode zc_CR_findRound 23 = .ok (.if_icmp .ne 7, 3) := by decide +kernel
theorem zd_CR_findRound_26 : decode zc_CR_findRound 26 = .ok (.iconst 0, 1) := by decide +kernel
theorem zd_CR_findRound_27 : decode zc_CR_findRound 27 = .ok (.goto 7, 3) := by decide +kernel
theorem zd_CR_findRound_30 : decode zc_CR_findRound 30 = .ok (.aload_n 0, 1) := by decide +kernel
theorem zd_CR_findRound_31 : decode zc_CR_findRound 31 = .ok (.getfield 47, 3) := by decide +kernel
theorem zd_CR_findRound_34 : decode zc_CR_findRound 34 = .ok (.istore_n 1, 1) := by decide +kernel
theorem zd_CR_findRound_35 : decode zc_CR_findRound 35 = .ok (.iconst 1, 1) := by decide +kernel
theorem zd_CR_findRound_36 : decode zc_CR_findRound 36 = .ok (.istore_n 2, 1) := by decide +kernel
theorem zd_CR_findRound_37 : decode zc_CR_findRound 37 = .ok (.iload_n 2, 1) := by decide +kernel
theorem zd_CR_findRound_38 : decode zc_CR_findRound 38 = .ok (.iload_n 1, 1) := by decide +kernel
theorem zd_CR_findRound_39 : decode zc_CR_findRound 39 = .ok (.if_icmp .gt 46, 3) := by decide +kernel
theorem zd_CR_findRound_42 : decode zc_CR_findRound 42 = .ok (.aload_n 0, 1) := by decide +kernel
theorem zd_CR_findRound_43 : decode zc_CR_findRound 43 = .ok (.iload_n 2, 1) := by decide +kernel
theorem zd_CR_findRound_44 : decode zc_CR_findRound 44 = .ok (.invokevirtual 125, 3) := by decide +kernel
theorem zd_CR_findRound_47 : decode zc_CR_findRound 47 = .ok (.istore_n 3, 1) := by decide +kernel
theorem zd_CR_findRound_48 : decode zc_CR_findRound 48 = .ok (.iload_n 3, 1) := by decide +kernel
theorem zd_CR_findRound_49 : decode zc_CR_findRound 49 = .ok (.iconst (-1), 1) := by decide +kernel
theorem zd_CR_findRound_50 : decode zc_CR_findRound 50 = .ok (.if_icmp .eq 29, 3) := by decide +kernel
theorem zd_CR_findRound_53 : decode zc_CR_findRound 53 = .ok (.aload_n 0, 1) := by decide +kernel
theorem zd_CR_findRound_54 : decode zc_CR_findRound 54 = .ok (.getfield 115, 3) := by decide +kernel
theorem zd_CR_findRound_57 : decode zc_CR_findRound 57 = .ok (.iconst (-1), 1) := by decide +kernel
theorem zd_CR_findRound_58 : decode zc_CR_findRound 58 = .ok (.if_icmp .eq 11, 3) := by decide +kernel
theorem zd_CR_findRound_61 : decode zc_CR_findRound 61 = .ok (.iload_n 3, 1) := by decide +kernel
theorem zd_CR_findRound_62 : decode zc_CR_findRound 62 = .ok (.aload_n 0, 1) := by decide +kernel
theorem zd_CR_findRound_63 : decode zc_CR_findRound 63 = .ok (.getfield 115, 3) := by decide +kernel
theorem zd_CR_findRound_66 : decode zc_CR_findRound 66 = .ok (.if_icmp .ge 13, 3) := by decide +kernel
theorem zd_CR_findRound_69 : decode zc_CR_findRound 69 = .ok (.aload_n 0, 1) := by decide +kernel
theorem zd_CR_findRound_70 : decode zc_CR_findRound 70 = .ok (.iload_n 3, 1) := by decide +kernel
theorem zd_CR_findRound_71 : decode zc_CR_findRound 71 = .ok (.putfield 115, 3) := by decide +kernel
theorem zd_CR_findRound_74 : decode zc_CR_findRound 74 = .ok (.aload_n 0, 1) := by decide +kernel
theorem zd_CR_findRound_75 : decode zc_CR_findRound 75 = .ok (.iload_n 2, 1) := by decide +kernel
theorem zd_CR_findRound_76 : decode zc_CR_findRound 76 = .ok (.putfield 118, 3) := by decide +kernel
theorem zd_CR_findRound_79 : decode zc_CR_findRound 79 = .ok (.iinc 2 1, 3) := by decide +kernel
theorem zd_CR_findRound_82 : decode zc_CR_findRound 82 = .ok (.goto (-45), 3) := by decide +kernel
theorem zd_CR_findRound_85 : decode zc_CR_findRound 85 = .ok (.aload_n 0, 1) := by decide +kernel
theorem zd_CR_findRound_86 : decode zc_CR_findRound 86 = .ok (.iconst 1, 1) := by decide +kernel
theorem zd_CR_findRound_87 : decode zc_CR_findRound 87 = .ok (.putfield 57, 3) := by decide +kernel
theorem zd_CR_findRound_90 : decode zc_CR_findRound 90 = .ok (.return_, 1) := by decide +kernel
theorem zd_CR_roundOf_0 : decode zc_CR_roundOf 0 = .ok (.iload_n 1, 1) := by decide +kernel
theorem zd_CR_roundOf_1 : decode zc_CR_roundOf 1 = .ok (.invokestatic 102, 3) := by decide +kernel
theorem zd_CR_roundOf_4 : decode zc_CR_roundOf 4 = .ok (.istore_n 2, 1) := by decide +kernel
theorem zd_CR_roundOf_5 : decode zc_CR_roundOf 5 = .ok (.aload_n 0, 1) := by decide +kernel
theorem zd_CR_roundOf_6 : decode zc_CR_roundOf 6 = .ok (.getfield 37, 3) := by decide +kernel
theorem zd_CR_roundOf_9 : decode zc_CR_roundOf 9 = .ok (.aload_n 0, 1) := by decide +kernel
theorem zd_CR_roundOf_10 : decode zc_CR_roundOf 10 = .ok (.getfield 23, 3) := by decide +kernel
theorem zd_CR_roundOf_13 : decode zc_CR_roundOf 13 = .ok (.iload_n 2, 1) := by decide +kernel
theorem zd_CR_roundOf_14 : decode zc_CR_roundOf 14 = .ok (.iload_n 2, 1) := by decide +kernel
theorem zd_CR_roundOf_15 : decode zc_CR_roundOf 15 = .ok (.invokestatic 80, 3) := by decide +kernel
theorem zd_CR_roundOf_18 : decode zc_CR_roundOf 18 = .ok (.invokevirtual 128, 3) := by decide +kernel
theorem zd_CR_roundOf_21 : decode zc_CR_roundOf 21 = .ok (.istore_n 3, 1) := by decide +kernel
theorem zd_CR_roundOf_22 : decode zc_CR_roundOf 22 = .ok (.iload_n 3, 1) := by decide +kernel
theorem zd_CR_roundOf_23 : decode zc_CR_roundOf 23 = .ok (.iconst (-1), 1) := by decide +kernel
theorem zd_CR_roundOf_24 : decode zc_CR_roundOf 24 = .ok (.if_icmp .ne 5, 3) := by decide +kernel
theorem zd_CR_roundOf_27 : decode zc_CR_roundOf 27 = .ok (.iconst (-1), 1) := by decide +kernel
theorem zd_CR_roundOf_28 : decode zc_CR_roundOf 28 = .ok (.ireturn, 1) := by decide +kernel
theorem zd_CR_roundOf_29 : decode zc_CR_roundOf 29 = .ok (.aload_n 0, 1) := by decide +kernel
theorem zd_CR_roundOf_30 : decode zc_CR_roundOf 30 = .ok (.getfield 37, 3) := by decide +kernel
theorem zd_CR_roundOf_33 : decode zc_CR_roundOf 33 = .ok (.aload_n 0, 1) := by decide +kernel
theorem zd_CR_roundOf_34 : decode zc_CR_roundOf 34 = .ok (.getfield 23, 3) := by decide +kernel
theorem zd_CR_roundOf_37 : decode zc_CR_roundOf 37 = .ok (.iload_n 2, 1) := by decide +kernel
theorem zd_CR_roundOf_38 : decode zc_CR_roundOf 38 = .ok (.invokestatic 80, 3) := by decide +kernel
theorem zd_CR_roundOf_41 : decode zc_CR_roundOf 41 = .ok (.iload_n 2, 1) := by decide +kernel
theorem zd_CR_roundOf_42 : decode zc_CR_roundOf 42 = .ok (.invokevirtual 128, 3) := by decide +kernel
theorem zd_CR_roundOf_45 : decode zc_CR_roundOf 45 = .ok (.istore 4, 2) := by decide +kernel
theorem zd_CR_roundOf_47 : decode zc_CR_roundOf 47 = .ok (.iload 4, 2) := by decide +kernel
theorem zd_CR_roundOf_49 : decode zc_CR_roundOf 49 = .ok (.iconst (-1), 1) := by decide +kernel
theorem zd_CR_roundOf_50 : decode zc_CR_roundOf 50 = .ok (.if_icmp .ne 7, 3) := by decide +kernel
theorem zd_CR_roundOf_53 : decode zc_CR_roundOf 53 = .ok (.iconst (-1), 1) := by decide +kernel
theorem zd_CR_roundOf_54 : decode zc_CR_roundOf 54 = .ok (.goto 7, 3) := by decide +kernel
theorem zd_CR_roundOf_57 : decode zc_CR_roundOf 57 = .ok (.iload_n 3, 1) := by decide +kernel
theorem zd_CR_roundOf_58 : decode zc_CR_roundOf 58 = .ok (.iload 4, 2) := by decide +kernel
theorem zd_CR_roundOf_60 : decode zc_CR_roundOf 60 = .ok (.iadd, 1) := by decide +kernel
theorem zd_CR_roundOf_61 : decode zc_CR_roundOf 61 = .ok (.ireturn, 1) := by decide +kernel
theorem zd_CG_pointOf_0 : decode zc_CG_pointOf 0 = .ok (.iload_n 0, 1) := by decide +kernel
theorem zd_CG_pointOf_1 : decode zc_CG_pointOf 1 = .ok (.ifCond .le 11, 3) := by decide +kernel
theorem zd_CG_pointOf_4 : decode zc_CG_pointOf 4 = .ok (.iconst 2, 1) := by decide +kernel
theorem zd_CG_pointOf_5 : decode zc_CG_pointOf 5 = .ok (.iload_n 0, 1) := by decide +kernel
theorem zd_CG_pointOf_6 : decode zc_CG_pointOf 6 = .ok (.imul, 1) := by decide +kernel
theorem zd_CG_pointOf_7 : decode zc_CG_pointOf 7 = .ok (.iconst 2, 1) := by decide +kernel
theorem zd_CG_pointOf_8 : decode zc_CG_pointOf 8 = .ok (.isub, 1) := by decide +kernel
theorem zd_CG_pointOf_9 : decode zc_CG_pointOf 9 = .ok (.goto 9, 3) := by decide +kernel
theorem zd_CG_pointOf_12 : decode zc_CG_pointOf 12 = .ok (.bipush (-2), 2) := by decide +kernel
theorem zd_CG_pointOf_14 : decode zc_CG_pointOf 14 = .ok (.iload_n 0, 1) := by decide +kernel
theorem zd_CG_pointOf_15 : decode zc_CG_pointOf 15 = .ok (.imul, 1) := by decide +kernel
theorem zd_CG_pointOf_16 : decode zc_CG_pointOf 16 = .ok (.iconst 1, 1) := by decide +kernel
theorem zd_CG_pointOf_17 : decode zc_CG_pointOf 17 = .ok (.isub, 1) := by decide +kernel
theorem zd_CG_pointOf_18 : decode zc_CG_pointOf 18 = .ok (.ireturn, 1) := by decide +kernel
theorem zd_WA_shortest_0 : decode zc_WA_shortest 0 = .ok (.aload_n 0, 1) := by decide +kernel
theorem zd_WA_shortest_1 : decode zc_WA_shortest 1 = .ok (.getfield 23, 3) := by decide +kernel
theorem zd_WA_shortest_4 : decode zc_WA_shortest 4 = .ok (.invokevirtual 30, 3) := by decide +kernel
theorem zd_WA_shortest_7 : decode zc_WA_shortest 7 = .ok (.aload_n 0, 1) := by decide +kernel
theorem zd_WA_shortest_8 : decode zc_WA_shortest 8 = .ok (.getfield 23, 3) := by decide +kernel
theorem zd_WA_shortest_11 : decode zc_WA_shortest 11 = .ok (.iconst 0, 1) := by decide +kernel
theorem zd_WA_shortest_12 : decode zc_WA_shortest 12 = .ok (.iload_n 2, 1) := by decide +kernel
theorem zd_WA_shortest_13 : decode zc_WA_shortest 13 = .ok (.invokevirtual 33, 3) := by decide +kernel
theorem zd_WA_shortest_16 : decode zc_WA_shortest 16 = .ok (.aload_n 0, 1) := by decide +kernel
theorem zd_WA_shortest_17 : decode zc_WA_shortest 17 = .ok (.getfield 9, 3) := by decide +kernel
theorem zd_WA_shortest_20 : decode zc_WA_shortest 20 = .ok (.iconst 0, 1) := by decide +kernel
theorem zd_WA_shortest_21 : decode zc_WA_shortest 21 = .ok (.iload_n 2, 1) := by decide +kernel
theorem zd_WA_shortest_22 : decode zc_WA_shortest 22 = .ok (.iastore, 1) := by decide +kernel
theorem zd_WA_shortest_23 : decode zc_WA_shortest 23 = .ok (.aload_n 0, 1) := by decide +kernel
theorem zd_WA_shortest_24 : decode zc_WA_shortest 24 = .ok (.getfield 15, 3) := by decide +kernel
theorem zd_WA_shortest_27 : decode zc_WA_shortest 27 = .ok (.iconst 0, 1) := by decide +kernel
theorem zd_WA_shortest_28 : decode zc_WA_shortest 28 = .ok (.iconst 0, 1) := by decide +kernel
theorem zd_WA_shortest_29 : decode zc_WA_shortest 29 = .ok (.iastore, 1) := by decide +kernel
theorem zd_WA_shortest_30 : decode zc_WA_shortest 30 = .ok (.iconst 1, 1) := by decide +kernel
theorem zd_WA_shortest_31 : decode zc_WA_shortest 31 = .ok (.istore 4, 2) := by decide +kernel
theorem zd_WA_shortest_33 : decode zc_WA_shortest 33 = .ok (.iconst 0, 1) := by decide +kernel
theorem zd_WA_shortest_34 : decode zc_WA_shortest 34 = .ok (.istore 5, 2) := by decide +kernel
theorem zd_WA_shortest_36 : decode zc_WA_shortest 36 = .ok (.iload 5, 2) := by decide +kernel
theorem zd_WA_shortest_38 : decode zc_WA_shortest 38 = .ok (.iload 4, 2) := by decide +kernel
theorem zd_WA_shortest_40 : decode zc_WA_shortest 40 = .ok (.if_icmp .ge 114, 3) := by decide +kernel
theorem zd_WA_shortest_43 : decode zc_WA_shortest 43 = .ok (.iload 5, 2) := by decide +kernel
theorem zd_WA_shortest_45 : decode zc_WA_shortest 45 = .ok (.sipush 160, 3) := by decide +kernel
theorem zd_WA_shortest_48 : decode zc_WA_shortest 48 = .ok (.if_icmp .ge 106, 3) := by decide +kernel
theorem zd_WA_shortest_51 : decode zc_WA_shortest 51 = .ok (.aload_n 1, 1) := by decide +kernel
theorem zd_WA_shortest_52 : decode zc_WA_shortest 52 = .ok (.aload_n 0, 1) := by decide +kernel
theorem zd_WA_shortest_53 : decode zc_WA_shortest 53 = .ok (.getfield 9, 3) := by decide +kernel
theorem zd_WA_shortest_56 : decode zc_WA_shortest 56 = .ok (.iload 5, 2) := by decide +kernel
theorem zd_WA_shortest_58 : decode zc_WA_shortest 58 = .ok (.iaload, 1) := by decide +kernel
theorem zd_WA_shortest_59 : decode zc_WA_shortest 59 = .ok (.iload_n 3, 1) := by decide +kernel
theorem zd_WA_shortest_60 : decode zc_WA_shortest 60 = .ok (.invokevirtual 37, 3) := by decide +kernel
theorem zd_WA_shortest_63 : decode zc_WA_shortest 63 = .ok (.ifCond .eq 13, 3) := by decide +kernel
theorem zd_WA_shortest_66 : decode zc_WA_shortest 66 = .ok (.aload_n 0, 1) := by decide +kernel
theorem zd_WA_shortest_67 : decode zc_WA_shortest 67 = .ok (.getfield 15, 3) := by decide +kernel
theorem zd_WA_shortest_70 : decode zc_WA_shortest 70 = .ok (.iload 5, 2) := by decide +kernel
theorem zd_WA_shortest_72 : decode zc_WA_shortest 72 = .ok (.iaload, 1) := by decide +kernel
theorem zd_WA_shortest_73 : decode zc_WA_shortest 73 = .ok (.iconst 1, 1) := by decide +kernel
theorem zd_WA_shortest_74 : decode zc_WA_shortest 74 = .ok (.iadd, 1) := by decide +kernel
theorem zd_WA_shortest_75 : decode zc_WA_shortest 75 = .ok (.ireturn, 1) := by decide +kernel
theorem zd_WA_shortest_76 : decode zc_WA_shortest 76 = .ok (.aload_n 0, 1) := by decide +kernel
theorem zd_WA_shortest_77 : decode zc_WA_shortest 77 = .ok (.getfield 27, 3) := by decide +kernel
theorem zd_WA_shortest_80 : decode zc_WA_shortest 80 = .ok (.aload_n 1, 1) := by decide +kernel
theorem zd_WA_shortest_81 : decode zc_WA_shortest 81 = .ok (.aload_n 0, 1) := by decide +kernel
theorem zd_WA_shortest_82 : decode zc_WA_shortest 82 = .ok (.getfield 9, 3) := by decide +kernel
theorem zd_WA_shortest_85 : decode zc_WA_shortest 85 = .ok (.iload 5, 2) := by decide +kernel
theorem zd_WA_shortest_87 : decode zc_WA_shortest 87 = .ok (.iaload, 1) := by decide +kernel
theorem zd_WA_shortest_88 : decode zc_WA_shortest 88 = .ok (.aload_n 0, 1) := by decide +kernel
theorem zd_WA_shortest_89 : decode zc_WA_shortest 89 = .ok (.getfield 23, 3) := by decide +kernel
theorem zd_WA_shortest_92 : decode zc_WA_shortest 92 = .ok (.invokevirtual 41, 3) := by decide +kernel
theorem zd_WA_shortest_95 : decode zc_WA_shortest 95 = .ok (.aload_n 0, 1) := by decide +kernel
theorem zd_WA_shortest_96 : decode zc_WA_shortest 96 = .ok (.getfield 27, 3) := by decide +kernel
theorem zd_WA_shortest_99 : decode zc_WA_shortest 99 = .ok (.iconst 0, 1) := by decide +kernel
theorem zd_WA_shortest_100 : decode zc_WA_shortest 100 = .ok (.aload_n 0, 1) := by decide +kernel
theorem zd_WA_shortest_101 : decode zc_WA_shortest 101 = .ok (.getfield 9, 3) := by decide +kernel
theorem zd_WA_shortest_104 : decode zc_WA_shortest 104 = .ok (.iload 4, 2) := by decide +kernel
theorem zd_WA_shortest_106 : decode zc_WA_shortest 106 = .ok (.invokevirtual 45, 3) := by decide +kernel
theorem zd_WA_shortest_109 : decode zc_WA_shortest 109 = .ok (.istore 6, 2) := by decide +kernel
theorem zd_WA_shortest_111 : decode zc_WA_shortest 111 = .ok (.iload 4, 2) := by decide +kernel
theorem zd_WA_shortest_113 : decode zc_WA_shortest 113 = .ok (.istore 7, 2) := by decide +kernel
theorem zd_WA_shortest_115 : decode zc_WA_shortest 115 = .ok (.iload 7, 2) := by decide +kernel
theorem zd_WA_shortest_117 : decode zc_WA_shortest 117 = .ok (.iload 6, 2) := by decide +kernel
theorem zd_WA_shortest_119 : decode zc_WA_shortest 119 = .ok (.if_icmp .ge 25, 3) := by decide +kernel
theorem zd_WA_shortest_122 : decode zc_WA_shortest 122 = .ok (.aload_n 0, 1) := by decide +kernel
theorem zd_WA_shortest_123 : decode zc_WA_shortest 123 = .ok (.getfield 15, 3) := by decide +kernel
theorem zd_WA_shortest_126 : decode zc_WA_shortest 126 = .ok (.iload 7, 2) := by decide +kernel
theorem zd_WA_shortest_128 : decode zc_WA_shortest 128 = .ok (.aload_n 0, 1) := by decide +kernel
theorem zd_WA_shortest_129 : decode zc_WA_shortest 129 = .ok (.getfield 15, 3) := by decide +kernel
theorem zd_WA_shortest_132 : decode zc_WA_shortest 132 = .ok (.iload 5, 2) := by decide +kernel
theorem zd_WA_shortest_134 : decode zc_WA_shortest 134 = .ok (.iaload, 1) := by decide +kernel
theorem zd_WA_shortest_135 : decode zc_WA_shortest 135 = .ok (.iconst 1, 1) := by decide +kernel
theorem zd_WA_shortest_136 : decode zc_WA_shortest 136 = .ok (.iadd, 1) := by decide +kernel
theorem zd_WA_shortest_137 : decode zc_WA_shortest 137 = .ok (.iastore, 1) := by decide +kernel
theorem zd_WA_shortest_138 : decode zc_WA_shortest 138 = .ok (.iinc 7 1, 3) := by decide +kernel
theorem zd_WA_shortest_141 : decode zc_WA_shortest 141 = .ok (.goto (-26), 3) := by decide +kernel
theorem zd_WA_shortest_144 : decode zc_WA_shortest 144 = .ok (.iload 6, 2) := by decide +kernel
theorem zd_WA_shortest_146 : decode zc_WA_shortest 146 = .ok (.istore 4, 2) := by decide +kernel
theorem zd_WA_shortest_148 : decode zc_WA_shortest 148 = .ok (.iinc 5 1, 3) := by decide +kernel
theorem zd_WA_shortest_151 : decode zc_WA_shortest 151 = .ok (.goto (-115), 3) := by decide +kernel
theorem zd_WA_shortest_154 : decode zc_WA_shortest 154 = .ok (.iconst (-1), 1) := by decide +kernel
theorem zd_WA_shortest_155 : decode zc_WA_shortest 155 = .ok (.ireturn, 1) := by decide +kernel
theorem zd_TA_takeUnseen_0 : decode zc_TA_takeUnseen 0 = .ok (.iconst 0, 1) := by decide +kernel
theorem zd_TA_takeUnseen_1 : decode zc_TA_takeUnseen 1 = .ok (.istore 4, 2) := by decide +kernel
theorem zd_TA_takeUnseen_3 : decode zc_TA_takeUnseen 3 = .ok (.iload 4, 2) := by decide +kernel
theorem zd_TA_takeUnseen_5 : decode zc_TA_takeUnseen 5 = .ok (.iconst 3, 1) := by decide +kernel
theorem zd_TA_takeUnseen_6 : decode zc_TA_takeUnseen 6 = .ok (.if_icmp .ge 56, 3) := by decide +kernel
theorem zd_TA_takeUnseen_9 : decode zc_TA_takeUnseen 9 = .ok (.aload_n 0, 1) := by decide +kernel
theorem zd_TA_takeUnseen_10 : decode zc_TA_takeUnseen 10 = .ok (.getfield 11, 3) := by decide +kernel
theorem zd_TA_takeUnseen_13 : decode zc_TA_takeUnseen 13 = .ok (.iload 4, 2) := by decide +kernel
theorem zd_TA_takeUnseen_15 : decode zc_TA_takeUnseen 15 = .ok (.aload_n 1, 1) := by decide +kernel
theorem zd_TA_takeUnseen_16 : decode zc_TA_takeUnseen 16 = .ok (.getfield 11, 3) := by decide +kernel
theorem zd_TA_takeUnseen_19 : decode zc_TA_takeUnseen 19 = .ok (.iload_n 2, 1) := by decide +kernel
theorem zd_TA_takeUnseen_20 : decode zc_TA_takeUnseen 20 = .ok (.iconst 3, 1) := by decide +kernel
theorem zd_TA_takeUnseen_21 : decode zc_TA_takeUnseen 21 = .ok (.imul, 1) := by decide +kernel
theorem zd_TA_takeUnseen_22 : decode zc_TA_takeUnseen 22 = .ok (.iload 4, 2) := by decide +kernel
theorem zd_TA_takeUnseen_24 : decode zc_TA_takeUnseen 24 = .ok (.iadd, 1) := by decide +kernel
theorem zd_TA_takeUnseen_25 : decode zc_TA_takeUnseen 25 = .ok (.laload, 1) := by decide +kernel
theorem zd_TA_takeUnseen_26 : decode zc_TA_takeUnseen 26 = .ok (.aload_n 3, 1) := by decide +kernel
theorem zd_TA_takeUnseen_27 : decode zc_TA_takeUnseen 27 = .ok (.getfield 11, 3) := by decide +kernel
theorem zd_TA_takeUnseen_30 : decode zc_TA_takeUnseen 30 = .ok (.iload 4, 2) := by decide +kernel
theorem zd_TA_takeUnseen_32 : decode zc_TA_takeUnseen 32 = .ok (.laload, 1) := by decide +kernel
theorem zd_TA_takeUnseen_33 : decode zc_TA_takeUnseen 33 = .ok (.ldc2_w 25, 3) := by decide +kernel
theorem zd_TA_takeUnseen_36 : decode zc_TA_takeUnseen 36 = .ok (.lxor, 1) := by decide +kernel
theorem zd_TA_takeUnseen_37 : decode zc_TA_takeUnseen 37 = .ok (.land, 1) := by decide +kernel
theorem zd_TA_takeUnseen_38 : decode zc_TA_takeUnseen 38 = .ok (.lastore, 1) := by decide +kernel
theorem zd_TA_takeUnseen_39 : decode zc_TA_takeUnseen 39 = .ok (.aload_n 3, 1) := by decide +kernel
theorem zd_TA_takeUnseen_40 : decode zc_TA_takeUnseen 40 = .ok (.getfield 11, 3) := by decide +kernel
theorem zd_TA_takeUnseen_43 : decode zc_TA_takeUnseen 43 = .ok (.iload 4, 2) := by decide +kernel
theorem zd_TA_takeUnseen_45 : decode zc_TA_takeUnseen 45 = .ok (.dup2, 1) := by decide +kernel
theorem zd_TA_takeUnseen_46 : decode zc_TA_takeUnseen 46 = .ok (.laload, 1) := by decide +kernel
theorem zd_TA_takeUnseen_47 : decode zc_TA_takeUnseen 47 = .ok (.aload_n 0, 1) := by decide +kernel
theorem zd_TA_takeUnseen_48 : decode zc_TA_takeUnseen 48 = .ok (.getfield 11, 3) := by decide +kernel
theorem zd_TA_takeUnseen_51 : decode zc_TA_takeUnseen 51 = .ok (.iload 4, 2) := by decide +kernel
theorem zd_TA_takeUnseen_53 : decode zc_TA_takeUnseen 53 = .ok (.laload, 1) := by decide +kernel
theorem zd_TA_takeUnseen_54 : decode zc_TA_takeUnseen 54 = .ok (.lor, 1) := by decide +kernel
theorem zd_TA_takeUnseen_55 : decode zc_TA_takeUnseen 55 = .ok (.lastore, 1) := by decide +kernel
theorem zd_TA_takeUnseen_56 : decode zc_TA_takeUnseen 56 = .ok (.iinc 4 1, 3) := by decide +kernel
theorem zd_TA_takeUnseen_59 : decode zc_TA_takeUnseen 59 = .ok (.goto (-56), 3) := by decide +kernel
theorem zd_TA_takeUnseen_62 : decode zc_TA_takeUnseen 62 = .ok (.return_, 1) := by decide +kernel
theorem zd_CG_rounds_0 : decode zc_CG_rounds 0 = .ok (.aload_n 0, 1) := by decide +kernel
theorem zd_CG_rounds_1 : decode zc_CG_rounds 1 = .ok (.getfield 24, 3) := by decide +kernel
theorem zd_CG_rounds_4 : decode zc_CG_rounds 4 = .ok (.invokevirtual 154, 3) := by decide +kernel
theorem zd_CG_rounds_7 : decode zc_CG_rounds 7 = .ok (.aload_n 0, 1) := by decide +kernel
theorem zd_CG_rounds_8 : decode zc_CG_rounds 8 = .ok (.getfield 24, 3) := by decide +kernel
theorem zd_CG_rounds_11 : decode zc_CG_rounds 11 = .ok (.getfield 160, 3) := by decide +kernel
theorem zd_CG_rounds_14 : decode zc_CG_rounds 14 = .ok (.ireturn, 1) := by decide +kernel
theorem zd_LA_nodes_0 : decode zc_LA_nodes 0 = .ok (.aload_n 0, 1) := by decide +kernel
theorem zd_LA_nodes_1 : decode zc_LA_nodes 1 = .ok (.iload_n 1, 1) := by decide +kernel
theorem zd_LA_nodes_2 : decode zc_LA_nodes 2 = .ok (.invokevirtual 7, 3) := by decide +kernel
theorem zd_LA_nodes_5 : decode zc_LA_nodes 5 = .ok (.goto 6, 3) := by decide +kernel
theorem zd_LA_nodes_8 : decode zc_LA_nodes 8 = .ok (.astore_n 2, 1) := by decide +kernel
theorem zd_LA_nodes_9 : decode zc_LA_nodes 9 = .ok (.iconst 1, 1) := by decide +kernel
theorem zd_LA_nodes_10 : decode zc_LA_nodes 10 = .ok (.ireturn, 1) := by decide +kernel
theorem zd_LA_nodes_11 : decode zc_LA_nodes 11 = .ok (.iconst 0, 1) := by decide +kernel
theorem zd_LA_nodes_12 : decode zc_LA_nodes 12 = .ok (.ireturn, 1) := by decide +kernel
theorem zd_CG_nodes_0 : decode zc_CG_nodes 0 = .ok (.iload_n 1, 1) := by decide +kernel
theorem zd_CG_nodes_1 : decode zc_CG_nodes 1 = .ok (.iconst 1, 1) := by decide +kernel
theorem zd_CG_nodes_2 : decode zc_CG_nodes 2 = .ok (.if_icmp .lt 10, 3) := by decide +kernel
theorem zd_CG_nodes_5 : decode zc_CG_nodes 5 = .ok (.iload_n 1, 1) := by decide +kernel
theorem zd_CG_nodes_6 : decode zc_CG_nodes 6 = .ok (.sipush 160, 3) := by decide +kernel
theorem zd_CG_nodes_9 : decode zc_CG_nodes 9 = .ok (.if_icmp .le 13, 3) := by decide +kernel
theorem zd_CG_nodes_12 : decode zc_CG_nodes 12 = .ok (.new 28, 3) := by decide +kernel
theorem zd_CG_nodes_15 : decode zc_CG_nodes 15 = .ok (.dup, 1) := by decide +kernel
theorem zd_CG_nodes_16 : decode zc_CG_nodes 16 = .ok (.ldc 30, 2) := by decide +kernel
theorem zd_CG_nodes_18 : decode zc_CG_nodes 18 = .ok (.invokespecial 32, 3) := by decide +kernel
theorem zd_CG_nodes_21 : decode zc_CG_nodes 21 = .ok (.athrow, 1) := by decide +kernel
theorem zd_CG_nodes_22 : decode zc_CG_nodes 22 = .ok (.aload_n 0, 1) := by decide +kernel
theorem zd_CG_nodes_23 : decode zc_CG_nodes 23 = .ok (.getfield 20, 3) := by decide +kernel
theorem zd_CG_nodes_26 : decode zc_CG_nodes 26 = .ok (.iload_n 1, 1) := by decide +kernel
theorem zd_CG_nodes_27 : decode zc_CG_nodes 27 = .ok (.invokevirtual 35, 3) := by decide +kernel
theorem zd_CG_nodes_30 : decode zc_CG_nodes 30 = .ok (.return_, 1) := by decide +kernel
theorem zd_LA_arc_0 : decode zc_LA_arc 0 = .ok (.aload_n 3, 1) := by decide +kernel
theorem zd_LA_arc_1 : decode zc_LA_arc 1 = .ok (.iconst 0, 1) := by decide +kernel
theorem zd_LA_arc_2 : decode zc_LA_arc 2 = .ok (.aload_n 0, 1) := by decide +kernel
theorem zd_LA_arc_3 : decode zc_LA_arc 3 = .ok (.iload_n 1, 1) := by decide +kernel
theorem zd_LA_arc_4 : decode zc_LA_arc 4 = .ok (.iload_n 2, 1) := by decide +kernel
theorem zd_LA_arc_5 : decode zc_LA_arc 5 = .ok (.invokevirtual 15, 3) := by decide +kernel
theorem zd_LA_arc_8 : decode zc_LA_arc 8 = .ok (.i2l, 1) := by decide +kernel
theorem zd_LA_arc_9 : decode zc_LA_arc 9 = .ok (.lastore, 1) := by decide +kernel
theorem zd_LA_arc_10 : decode zc_LA_arc 10 = .ok (.goto 7, 3) := by decide +kernel
theorem zd_LA_arc_13 : decode zc_LA_arc 13 = .ok (.astore 4, 2) := by decide +kernel
theorem zd_LA_arc_15 : decode zc_LA_arc 15 = .ok (.iconst 1, 1) := by decide +kernel
theorem zd_LA_arc_16 : decode zc_LA_arc 16 = .ok (.ireturn, 1) := by decide +kernel
theorem zd_LA_arc_17 : decode zc_LA_arc 17 = .ok (.iconst 0, 1) := by decide +kernel
theorem zd_LA_arc_18 : decode zc_LA_arc 18 = .ok (.ireturn, 1) := by decide +kernel
theorem zd_CG_arc_0 : decode zc_CG_arc 0 = .ok (.aload_n 0, 1) := by decide +kernel
theorem zd_CG_arc_1 : decode zc_CG_arc 1 = .ok (.iload_n 1, 1) := by decide +kernel
theorem zd_CG_arc_2 : decode zc_CG_arc 2 = .ok (.invokevirtual 41, 3) := by decide +kernel
theorem zd_CG_arc_5 : decode zc_CG_arc 5 = .ok (.aload_n 0, 1) := by decide +kernel
theorem zd_CG_arc_6 : decode zc_CG_arc 6 = .ok (.iload_n 2, 1) := by decide +kernel
theorem zd_CG_arc_7 : decode zc_CG_arc 7 = .ok (.invokevirtual 41, 3) := by decide +kernel
theorem zd_CG_arc_10 : decode zc_CG_arc 10 = .ok (.aload_n 0, 1) := by decide +kernel
theorem zd_CG_arc_11 : decode zc_CG_arc 11 = .ok (.getfield 20, 3) := by decide +kernel
theorem zd_CG_arc_14 : decode zc_CG_arc 14 = .ok (.iload_n 1, 1) := by decide +kernel
theorem zd_CG_arc_15 : decode zc_CG_arc 15 = .ok (.iload_n 2, 1) := by decide +kernel
theorem zd_CG_arc_16 : decode zc_CG_arc 16 = .ok (.invokevirtual 44, 3) := by decide +kernel
theorem zd_CG_arc_19 : decode zc_CG_arc 19 = .ok (.ireturn, 1) := by decide +kernel
theorem zd_CG_needNode_0 : decode zc_CG_needNode 0 = .ok (.iload_n 1, 1) := by decide +kernel
theorem zd_CG_needNode_1 : decode zc_CG_needNode 1 = .ok (.ifCond .lt 14, 3) := by decide +kernel
theorem zd_CG_needNode_4 : decode zc_CG_needNode 4 = .ok (.iload_n 1, 1) := by decide +kernel
theorem zd_CG_needNode_5 : decode zc_CG_needNode 5 = .ok (.aload_n 0, 1) := by decide +kernel
theorem zd_CG_needNode_6 : decode zc_CG_needNode 6 = .ok (.getfield 20, 3) := by decide +kernel
theorem zd_CG_needNode_9 : decode zc_CG_needNode 9 = .ok (.getfield 166, 3) := by decide +kernel
theorem zd_CG_needNode_12 : decode zc_CG_needNode 12 = .ok (.if_icmp .lt 13, 3) := by decide +kernel
theorem zd_CG_needNode_15 : decode zc_CG_needNode 15 = .ok (.new 64, 3) := by decide +kernel
theorem zd_CG_needNode_18 : decode zc_CG_needNode 18 = .ok (.dup, 1) := by decide +kernel
theorem zd_CG_needNode_19 : decode zc_CG_needNode 19 = .ok (.ldc 169, 2) := by decide +kernel
theorem zd_CG_needNode_21 : decode zc_CG_needNode 21 = .ok (.invokespecial 68, 3) := by decide +kernel
theorem zd_CG_needNode_24 : decode zc_CG_needNode 24 = .ok (.athrow, 1) := by decide +kernel
theorem zd_CG_needNode_25 : decode zc_CG_needNode 25 = .ok (.return_, 1) := by decide +kernel
theorem zd_NE_add_0 : decode zc_NE_add 0 = .ok (.aload_n 0, 1) := by decide +kernel
theorem zd_NE_add_1 : decode zc_NE_add 1 = .ok (.getfield 27, 3) := by decide +kernel
theorem zd_NE_add_4 : decode zc_NE_add 4 = .ok (.iload_n 1, 1) := by decide +kernel
theorem zd_NE_add_5 : decode zc_NE_add 5 = .ok (.iload_n 2, 1) := by decide +kernel
theorem zd_NE_add_6 : decode zc_NE_add 6 = .ok (.invokevirtual 59, 3) := by decide +kernel
theorem zd_NE_add_9 : decode zc_NE_add 9 = .ok (.ifCond .ne 13, 3) := by decide +kernel
theorem zd_NE_add_12 : decode zc_NE_add 12 = .ok (.aload_n 0, 1) := by decide +kernel
theorem zd_NE_add_13 : decode zc_NE_add 13 = .ok (.getfield 48, 3) := by decide +kernel
theorem zd_NE_add_16 : decode zc_NE_add 16 = .ok (.sipush 1000, 3) := by decide +kernel
theorem zd_NE_add_19 : decode zc_NE_add 19 = .ok (.if_icmp .lt 5, 3) := by decide +kernel
theorem zd_NE_add_22 : decode zc_NE_add 22 = .ok (.iconst (-1), 1) := by decide +kernel
theorem zd_NE_add_23 : decode zc_NE_add 23 = .ok (.ireturn, 1) := by decide +kernel
theorem zd_NE_add_24 : decode zc_NE_add 24 = .ok (.aload_n 0, 1) := by decide +kernel
theorem zd_NE_add_25 : decode zc_NE_add 25 = .ok (.getfield 27, 3) := by decide +kernel
theorem zd_NE_add_28 : decode zc_NE_add 28 = .ok (.iload_n 1, 1) := by decide +kernel
theorem zd_NE_add_29 : decode zc_NE_add 29 = .ok (.iload_n 2, 1) := by decide +kernel
theorem zd_NE_add_30 : decode zc_NE_add 30 = .ok (.invokevirtual 63, 3) := by decide +kernel
theorem zd_NE_add_33 : decode zc_NE_add 33 = .ok (.aload_n 0, 1) := by decide +kernel
theorem zd_NE_add_34 : decode zc_NE_add 34 = .ok (.dup, 1) := by decide +kernel
theorem zd_NE_add_35 : decode zc_NE_add 35 = .ok (.getfield 48, 3) := by decide +kernel
theorem zd_NE_add_38 : decode zc_NE_add 38 = .ok (.iconst 1, 1) := by decide +kernel
theorem zd_NE_add_39 : decode zc_NE_add 39 = .ok (.iadd, 1) := by decide +kernel
theorem zd_NE_add_40 : decode zc_NE_add 40 = .ok (.putfield 48, 3) := by decide +kernel
theorem zd_NE_add_43 : decode zc_NE_add 43 = .ok (.aload_n 0, 1) := by decide +kernel
theorem zd_NE_add_44 : decode zc_NE_add 44 = .ok (.getfield 52, 3) := by decide +kernel
theorem zd_NE_add_47 : decode zc_NE_add 47 = .ok (.ifCond .eq 12, 3) := by decide +kernel
theorem zd_NE_add_50 : decode zc_NE_add 50 = .ok (.aload_n 0, 1) := by decide +kernel
theorem zd_NE_add_51 : decode zc_NE_add 51 = .ok (.getfield 34, 3) := by decide +kernel
theorem zd_NE_add_54 : decode zc_NE_add 54 = .ok (.iload_n 1, 1) := by decide +kernel
theorem zd_NE_add_55 : decode zc_NE_add 55 = .ok (.iload_n 2, 1) := by decide +kernel
theorem zd_NE_add_56 : decode zc_NE_add 56 = .ok (.invokevirtual 67, 3) := by decide +kernel
theorem zd_NE_add_59 : decode zc_NE_add 59 = .ok (.aload_n 0, 1) := by decide +kernel
theorem zd_NE_add_60 : decode zc_NE_add 60 = .ok (.dup, 1) := by decide +kernel
theorem zd_NE_add_61 : decode zc_NE_add 61 = .ok (.getfield 56, 3) := by decide +kernel
theorem zd_NE_add_64 : decode zc_NE_add 64 = .ok (.iconst 1, 1) := by decide +kernel
theorem zd_NE_add_65 : decode zc_NE_add 65 = .ok (.iadd, 1) := by decide +kernel
theorem zd_NE_add_66 : decode zc_NE_add 66 = .ok (.putfield 56, 3) := by decide +kernel
theorem zd_NE_add_69 : decode zc_NE_add 69 = .ok (.aload_n 0, 1) := by decide +kernel
theorem zd_NE_add_70 : decode zc_NE_add 70 = .ok (.getfield 48, 3) := by decide +kernel
theorem zd_NE_add_73 : decode zc_NE_add 73 = .ok (.ireturn, 1) := by decide +kernel
theorem zd_LA_cut_0 : decode zc_LA_cut 0 = .ok (.aload_n 3, 1) := by decide +kernel
theorem zd_LA_cut_1 : decode zc_LA_cut 1 = .ok (.iconst 0, 1) := by decide +kernel
theorem zd_LA_cut_2 : decode zc_LA_cut 2 = .ok (.aload_n 0, 1) := by decide +kernel
theorem zd_LA_cut_3 : decode zc_LA_cut 3 = .ok (.iload_n 1, 1) := by decide +kernel
theorem zd_LA_cut_4 : decode zc_LA_cut 4 = .ok (.iload_n 2, 1) := by decide +kernel
theorem zd_LA_cut_5 : decode zc_LA_cut 5 = .ok (.invokevirtual 21, 3) := by decide +kernel
theorem zd_LA_cut_8 : decode zc_LA_cut 8 = .ok (.ifCond .eq 7, 3) := by decide +kernel
theorem zd_LA_cut_11 : decode zc_LA_cut 11 = .ok (.lconst 1, 1) := by decide +kernel
theorem zd_LA_cut_12 : decode zc_LA_cut 12 = .ok (.goto 4, 3) := by decide +kernel
theorem zd_LA_cut_15 : decode zc_LA_cut 15 = .ok (.lconst 0, 1) := by decide +kernel
theorem zd_LA_cut_16 : decode zc_LA_cut 16 = .ok (.lastore, 1) := by decide +kernel
theorem zd_LA_cut_17 : decode zc_LA_cut 17 = .ok (.goto 7, 3) := by decide +kernel
theorem zd_LA_cut_20 : decode zc_LA_cut 20 = .ok (.astore 4, 2) := by decide +kernel
theorem zd_LA_cut_22 : decode zc_LA_cut 22 = .ok (.iconst 1, 1) := by decide +kernel
theorem zd_LA_cut_23 : decode zc_LA_cut 23 = .ok (.ireturn, 1) := by decide +kernel
theorem zd_LA_cut_24 : decode zc_LA_cut 24 = .ok (.iconst 0, 1) := by decide +kernel
theorem zd_LA_cut_25 : decode zc_LA_cut 25 = .ok (.ireturn, 1) := by decide +kernel
theorem zd_CG_cut_0 : decode zc_CG_cut 0 = .ok (.aload_n 0, 1) := by decide +kernel
theorem zd_CG_cut_1 : decode zc_CG_cut 1 = .ok (.iload_n 1, 1) := by decide +kernel
theorem zd_CG_cut_2 : decode zc_CG_cut 2 = .ok (.invokevirtual 41, 3) := by decide +kernel
theorem zd_CG_cut_5 : decode zc_CG_cut 5 = .ok (.aload_n 0, 1) := by decide +kernel
theorem zd_CG_cut_6 : decode zc_CG_cut 6 = .ok (.iload_n 2, 1) := by decide +kernel
theorem zd_CG_cut_7 : decode zc_CG_cut 7 = .ok (.invokevirtual 41, 3) := by decide +kernel
theorem zd_CG_cut_10 : decode zc_CG_cut 10 = .ok (.aload_n 0, 1) := by decide +kernel
theorem zd_CG_cut_11 : decode zc_CG_cut 11 = .ok (.getfield 20, 3) := by decide +kernel
theorem zd_CG_cut_14 : decode zc_CG_cut 14 = .ok (.iload_n 1, 1) := by decide +kernel
theorem zd_CG_cut_15 : decode zc_CG_cut 15 = .ok (.iload_n 2, 1) := by decide +kernel
theorem zd_CG_cut_16 : decode zc_CG_cut 16 = .ok (.invokevirtual 48, 3) := by decide +kernel
theorem zd_CG_cut_19 : decode zc_CG_cut 19 = .ok (.ireturn, 1) := by decide +kernel
theorem zd_NE_remove_0 : decode zc_NE_remove 0 = .ok (.aload_n 0, 1) := by decide +kernel
theorem zd_NE_remove_1 : decode zc_NE_remove 1 = .ok (.getfield 27, 3) := by decide +kernel
theorem zd_NE_remove_4 : decode zc_NE_remove 4 = .ok (.iload_n 1, 1) := by decide +kernel
theorem zd_NE_remove_5 : decode zc_NE_remove 5 = .ok (.iload_n 2, 1) := by decide +kernel
theorem zd_NE_remove_6 : decode zc_NE_remove 6 = .ok (.invokevirtual 59, 3) := by decide +kernel
theorem zd_NE_remove_9 : decode zc_NE_remove 9 = .ok (.ifCond .ne 5, 3) := by decide +kernel
theorem zd_NE_remove_12 : decode zc_NE_remove 12 = .ok (.iconst 0, 1) := by decide +kernel
theorem zd_NE_remove_13 : decode zc_NE_remove 13 = .ok (.ireturn, 1) := by decide +kernel
theorem zd_NE_remove_14 : decode zc_NE_remove 14 = .ok (.aload_n 0, 1) := by decide +kernel
theorem zd_NE_remove_15 : decode zc_NE_remove 15 = .ok (.getfield 27, 3) := by decide +kernel
theorem zd_NE_remove_18 : decode zc_NE_remove 18 = .ok (.iload_n 1, 1) := by decide +kernel
theorem zd_NE_remove_19 : decode zc_NE_remove 19 = .ok (.iload_n 2, 1) := by decide +kernel
theorem zd_NE_remove_20 : decode zc_NE_remove 20 = .ok (.invokevirtual 70, 3) := by decide +kernel
theorem zd_NE_remove_23 : decode zc_NE_remove 23 = .ok (.aload_n 0, 1) := by decide +kernel
theorem zd_NE_remove_24 : decode zc_NE_remove 24 = .ok (.dup, 1) := by decide +kernel
theorem zd_NE_remove_25 : decode zc_NE_remove 25 = .ok (.getfield 48, 3) := by decide +kernel
theorem zd_NE_remove_28 : decode zc_NE_remove 28 = .ok (.iconst 1, 1) := by decide +kernel
theorem zd_NE_remove_29 : decode zc_NE_remove 29 = .ok (.isub, 1) := by decide +kernel
theorem zd_NE_remove_30 : decode zc_NE_remove 30 = .ok (.putfield 48, 3) := by decide +kernel
theorem zd_NE_remove_33 : decode zc_NE_remove 33 = .ok (.aload_n 0, 1) := by decide +kernel
theorem zd_NE_remove_34 : decode zc_NE_remove 34 = .ok (.iconst 0, 1) := by decide +kernel
theorem zd_NE_remove_35 : decode zc_NE_remove 35 = .ok (.putfield 52, 3) := by decide +kernel
theorem zd_NE_remove_38 : decode zc_NE_remove 38 = .ok (.aload_n 0, 1) := by decide +kernel
theorem zd_NE_remove_39 : decode zc_NE_remove 39 = .ok (.dup, 1) := by decide +kernel
theorem zd_NE_remove_40 : decode zc_NE_remove 40 = .ok (.getfield 56, 3) := by decide +kernel
theorem zd_NE_remove_43 : decode zc_NE_remove 43 = .ok (.iconst 1, 1) := by decide +kernel
theorem zd_NE_remove_44 : decode zc_NE_remove 44 = .ok (.iadd, 1) := by decide +kernel
theorem zd_NE_remove_45 : decode zc_NE_remove 45 = .ok (.putfield 56, 3) := by decide +kernel
theorem zd_NE_remove_48 : decode zc_NE_remove 48 = .ok (.iconst 1, 1) := by decide +kernel
theorem zd_NE_remove_49 : decode zc_NE_remove 49 = .ok (.ireturn, 1) := by decide +kernel
theorem zd_TA_take_0 : decode zc_TA_take 0 = .ok (.aload_n 0, 1) := by decide +kernel
theorem zd_TA_take_1 : decode zc_TA_take 1 = .ok (.getfield 11, 3) := by decide +kernel
theorem zd_TA_take_4 : decode zc_TA_take 4 = .ok (.iload_n 1, 1) := by decide +kernel
theorem zd_TA_take_5 : decode zc_TA_take 5 = .ok (.iconst 3, 1) := by decide +kernel
theorem zd_TA_take_6 : decode zc_TA_take 6 = .ok (.imul, 1) := by decide +kernel
theorem zd_TA_take_7 : decode zc_TA_take 7 = .ok (.iload_n 2, 1) := by decide +kernel
theorem zd_TA_take_8 : decode zc_TA_take 8 = .ok (.bipush 64, 2) := by decide +kernel
theorem zd_TA_take_10 : decode zc_TA_take 10 = .ok (.idiv, 1) := by decide +kernel
theorem zd_TA_take_11 : decode zc_TA_take 11 = .ok (.iadd, 1) := by decide +kernel
theorem zd_TA_take_12 : decode zc_TA_take 12 = .ok (.dup2, 1) := by decide +kernel
theorem zd_TA_take_13 : decode zc_TA_take 13 = .ok (.laload, 1) := by decide +kernel
theorem zd_TA_take_14 : decode zc_TA_take 14 = .ok (.iload_n 2, 1) := by decide +kernel
theorem zd_TA_take_15 : decode zc_TA_take 15 = .ok (.invokestatic 21, 3) := by decide +kernel
theorem zd_TA_take_18 : decode zc_TA_take 18 = .ok (.ldc2_w 25, 3) := by decide +kernel
theorem zd_TA_take_21 : decode zc_TA_take 21 = .ok (.lxor, 1) := by decide +kernel
theorem zd_TA_take_22 : decode zc_TA_take 22 = .ok (.land, 1) := by decide +kernel
theorem zd_TA_take_23 : decode zc_TA_take 23 = .ok (.lastore, 1) := by decide +kernel
theorem zd_TA_take_24 : decode zc_TA_take 24 = .ok (.return_, 1) := by decide +kernel
theorem zd_LA_part_0 : decode zc_LA_part 0 = .ok (.aload_n 2, 1) := by decide +kernel
theorem zd_LA_part_1 : decode zc_LA_part 1 = .ok (.iconst 0, 1) := by decide +kernel
theorem zd_LA_part_2 : decode zc_LA_part 2 = .ok (.aload_n 0, 1) := by decide +kernel
theorem zd_LA_part_3 : decode zc_LA_part 3 = .ok (.iload_n 1, 1) := by decide +kernel
theorem zd_LA_part_4 : decode zc_LA_part 4 = .ok (.invokevirtual 25, 3) := by decide +kernel
theorem zd_LA_part_7 : decode zc_LA_part 7 = .ok (.i2l, 1) := by decide +kernel
theorem zd_LA_part_8 : decode zc_LA_part 8 = .ok (.lastore, 1) := by decide +kernel
theorem zd_LA_part_9 : decode zc_LA_part 9 = .ok (.goto 6, 3) := by decide +kernel
theorem zd_LA_part_12 : decode zc_LA_part 12 = .ok (.astore_n 3, 1) := by decide +kernel
theorem zd_LA_part_13 : decode zc_LA_part 13 = .ok (.iconst 1, 1) := by decide +kernel
theorem zd_LA_part_14 : decode zc_LA_part 14 = .ok (.ireturn, 1) := by decide +kernel
theorem zd_LA_part_15 : decode zc_LA_part 15 = .ok (.iconst 0, 1) := by decide +kernel
theorem zd_LA_part_16 : decode zc_LA_part 16 = .ok (.ireturn, 1) := by decide +kernel
theorem zd_CG_part_0 : decode zc_CG_part 0 = .ok (.aload_n 0, 1) := by decide +kernel
theorem zd_CG_part_1 : decode zc_CG_part 1 = .ok (.iload_n 1, 1) := by decide +kernel
theorem zd_CG_part_2 : decode zc_CG_part 2 = .ok (.invokevirtual 41, 3) := by decide +kernel
theorem zd_CG_part_5 : decode zc_CG_part 5 = .ok (.aload_n 0, 1) := by decide +kernel
theorem zd_CG_part_6 : decode zc_CG_part 6 = .ok (.getfield 10, 3) := by decide +kernel
theorem zd_CG_part_9 : decode zc_CG_part 9 = .ok (.invokevirtual 52, 3) := by decide +kernel
theorem zd_CG_part_12 : decode zc_CG_part 12 = .ok (.getfield 60, 3) := by decide +kernel
theorem zd_CG_part_15 : decode zc_CG_part 15 = .ok (.iload_n 1, 1) := by decide +kernel
theorem zd_CG_part_16 : decode zc_CG_part 16 = .ok (.iaload, 1) := by decide +kernel
theorem zd_CG_part_17 : decode zc_CG_part 17 = .ok (.ireturn, 1) := by decide +kernel
theorem zd_LA_about_0 : decode zc_LA_about 0 = .ok (.aload_n 3, 1) := by decide +kernel
theorem zd_LA_about_1 : decode zc_LA_about 1 = .ok (.iconst 0, 1) := by decide +kernel
theorem zd_LA_about_2 : decode zc_LA_about 2 = .ok (.aload_n 0, 1) := by decide +kernel
theorem zd_LA_about_3 : decode zc_LA_about 3 = .ok (.iload_n 1, 1) := by decide +kernel
theorem zd_LA_about_4 : decode zc_LA_about 4 = .ok (.iload_n 2, 1) := by decide +kernel
theorem zd_LA_about_5 : decode zc_LA_about 5 = .ok (.invokevirtual 29, 3) := by decide +kernel
theorem zd_LA_about_8 : decode zc_LA_about 8 = .ok (.i2l, 1) := by decide +kernel
theorem zd_LA_about_9 : decode zc_LA_about 9 = .ok (.lastore, 1) := by decide +kernel
theorem zd_LA_about_10 : decode zc_LA_about 10 = .ok (.goto 11, 3) := by decide +kernel
theorem zd_LA_about_13 : decode zc_LA_about 13 = .ok (.astore 4, 2) := by decide +kernel
theorem zd_LA_about_15 : decode zc_LA_about 15 = .ok (.iconst 1, 1) := by decide +kernel
theorem zd_LA_about_16 : decode zc_LA_about 16 = .ok (.ireturn, 1) := by decide +kernel
theorem zd_LA_about_17 : decode zc_LA_about 17 = .ok (.astore 4, 2) := by decide +kernel
theorem zd_LA_about_19 : decode zc_LA_about 19 = .ok (.iconst 2, 1) := by decide +kernel
theorem zd_LA_about_20 : decode zc_LA_about 20 = .ok (.ireturn, 1) := by decide +kernel
theorem zd_LA_about_21 : decode zc_LA_about 21 = .ok (.iconst 0, 1) := by decide +kernel
theorem zd_LA_about_22 : decode zc_LA_about 22 = .ok (.ireturn, 1) := by decide +kernel
theorem zd_CG_about_0 : decode zc_CG_about 0 = .ok (.aload_n 0, 1) := by decide +kernel
theorem zd_CG_about_1 : decode zc_CG_about 1 = .ok (.getfield 10, 3) := by decide +kernel
theorem zd_CG_about_4 : decode zc_CG_about 4 = .ok (.invokevirtual 52, 3) := by decide +kernel
theorem zd_CG_about_7 : decode zc_CG_about 7 = .ok (.astore_n 3, 1) := by decide +kernel
theorem zd_CG_about_8 : decode zc_CG_about 8 = .ok (.iload_n 1, 1) := by decide +kernel
theorem zd_CG_about_9 : decode zc_CG_about 9 = .ok (.ifCond .lt 11, 3) := by decide +kernel
theorem zd_CG_about_12 : decode zc_CG_about 12 = .ok (.iload_n 1, 1) := by decide +kernel
theorem zd_CG_about_13 : decode zc_CG_about 13 = .ok (.aload_n 3, 1) := by decide +kernel
theorem zd_CG_about_14 : decode zc_CG_about 14 = .ok (.getfield 56, 3) := by decide +kernel
theorem zd_CG_about_17 : decode zc_CG_about 17 = .ok (.if_icmp .lt 13, 3) := by decide +kernel
theorem zd_CG_about_20 : decode zc_CG_about 20 = .ok (.new 64, 3) := by decide +kernel
theorem zd_CG_about_23 : decode zc_CG_about 23 = .ok (.dup, 1) := by decide +kernel
theorem zd_CG_about_24 : decode zc_CG_about 24 = .ok (.ldc 66, 2) := by decide +kernel
theorem zd_CG_about_26 : decode zc_CG_about 26 = .ok (.invokespecial 68, 3) := by decide +kernel
theorem zd_CG_about_29 : decode zc_CG_about 29 = .ok (.athrow, 1) := by decide +kernel
theorem zd_CG_about_30 : decode zc_CG_about 30 = .ok (.iload_n 2, 1) := by decide +kernel
theorem zd_CG_about_31 : decode zc_CG_about 31 = .ok (.tableswitch 84 0 6 #[41, 47, 54, 60, 66, 72, 78], 41) := by decide +kernel
theorem zd_CG_about_72 : decode zc_CG_about 72 = .ok (.aload_n 3, 1) := by decide +kernel
theorem zd_CG_about_73 : decode zc_CG_about 73 = .ok (.iload_n 1, 1) := by decide +kernel
theorem zd_CG_about_74 : decode zc_CG_about 74 = .ok (.invokevirtual 69, 3) := by decide +kernel
theorem zd_CG_about_77 : decode zc_CG_about 77 = .ok (.ireturn, 1) := by decide +kernel
theorem zd_CG_about_78 : decode zc_CG_about 78 = .ok (.aload_n 3, 1) := by decide +kernel
theorem zd_CG_about_79 : decode zc_CG_about 79 = .ok (.getfield 73, 3) := by decide +kernel
theorem zd_CG_about_82 : decode zc_CG_about 82 = .ok (.iload_n 1, 1) := by decide +kernel
theorem zd_CG_about_83 : decode zc_CG_about 83 = .ok (.iaload, 1) := by decide +kernel
theorem zd_CG_about_84 : decode zc_CG_about 84 = .ok (.ireturn, 1) := by decide +kernel
theorem zd_CG_about_85 : decode zc_CG_about 85 = .ok (.aload_n 3, 1) := by decide +kernel
theorem zd_CG_about_86 : decode zc_CG_about 86 = .ok (.iload_n 1, 1) := by decide +kernel
theorem zd_CG_about_87 : decode zc_CG_about 87 = .ok (.invokevirtual 76, 3) := by decide +kernel
theorem zd_CG_about_90 : decode zc_CG_about 90 = .ok (.ireturn, 1) := by decide +kernel
theorem zd_CG_about_91 : decode zc_CG_about 91 = .ok (.aload_n 3, 1) := by decide +kernel
theorem zd_CG_about_92 : decode zc_CG_about 92 = .ok (.iload_n 1, 1) := by decide +kernel
theorem zd_CG_about_93 : decode zc_CG_about 93 = .ok (.invokevirtual 79, 3) := by decide +kernel
theorem zd_CG_about_96 : decode zc_CG_about 96 = .ok (.ireturn, 1) := by decide +kernel
theorem zd_CG_about_97 : decode zc_CG_about 97 = .ok (.aload_n 3, 1) := by decide +kernel
theorem zd_CG_about_98 : decode zc_CG_about 98 = .ok (.iload_n 1, 1) := by decide +kernel
theorem zd_CG_about_99 : decode zc_CG_about 99 = .ok (.invokevirtual 82, 3) := by decide +kernel
theorem zd_CG_about_102 : decode zc_CG_about 102 = .ok (.ireturn, 1) := by decide +kernel
theorem zd_CG_about_103 : decode zc_CG_about 103 = .ok (.aload_n 3, 1) := by decide +kernel
theorem zd_CG_about_104 : decode zc_CG_about 104 = .ok (.iload_n 1, 1) := by decide +kernel
theorem zd_CG_about_105 : decode zc_CG_about 105 = .ok (.invokevirtual 85, 3) := by decide +kernel
theorem zd_CG_about_108 : decode zc_CG_about 108 = .ok (.ireturn, 1) := by decide +kernel
theorem zd_CG_about_109 : decode zc_CG_about 109 = .ok (.aload_n 3, 1) := by decide +kernel
theorem zd_CG_about_110 : decode zc_CG_about 110 = .ok (.iload_n 1, 1) := by decide +kernel
theorem zd_CG_about_111 : decode zc_CG_about 111 = .ok (.invokevirtual 88, 3) := by decide +kernel
theorem zd_CG_about_114 : decode zc_CG_about 114 = .ok (.ireturn, 1) := by decide +kernel
theorem zd_CG_about_115 : decode zc_CG_about 115 = .ok (.new 28, 3) := by decide +kernel
theorem zd_CG_about_118 : decode zc_CG_about 118 = .ok (.dup, 1) := by decide +kernel
theorem zd_CG_about_119 : decode zc_CG_about 119 = .ok (.ldc 91, 2) := by decide +kernel
theorem zd_CG_about_121 : decode zc_CG_about 121 = .ok (.invokespecial 32, 3) := by decide +kernel
theorem zd_CG_about_124 : decode zc_CG_about 124 = .ok (.athrow, 1) := by decide +kernel
theorem zd_PA_arcsInside_0 : decode zc_PA_arcsInside 0 = .ok (.aload_n 0, 1) := by decide +kernel
theorem zd_PA_arcsInside_1 : decode zc_PA_arcsInside 1 = .ok (.iload_n 1, 1) := by decide +kernel
theorem zd_PA_arcsInside_2 : decode zc_PA_arcsInside 2 = .ok (.iconst 1, 1) := by decide +kernel
theorem zd_PA_arcsInside_3 : decode zc_PA_arcsInside 3 = .ok (.invokevirtual 95, 3) := by decide +kernel
theorem zd_PA_arcsInside_6 : decode zc_PA_arcsInside 6 = .ok (.ireturn, 1) := by decide +kernel
theorem zd_PA_countArcs_0 : decode zc_PA_countArcs 0 = .ok (.iconst 0, 1) := by decide +kernel
theorem zd_PA_countArcs_1 : decode zc_PA_countArcs 1 = .ok (.istore_n 3, 1) := by decide +kernel
theorem zd_PA_countArcs_2 : decode zc_PA_countArcs 2 = .ok (.iconst 0, 1) := by decide +kernel
theorem zd_PA_countArcs_3 : decode zc_PA_countArcs 3 = .ok (.istore 4, 2) := by decide +kernel
theorem zd_PA_countArcs_5 : decode zc_PA_countArcs 5 = .ok (.iload 4, 2) := by decide +kernel
theorem zd_PA_countArcs_7 : decode zc_PA_countArcs 7 = .ok (.aload_n 0, 1) := by decide +kernel
theorem zd_PA_countArcs_8 : decode zc_PA_countArcs 8 = .ok (.getfield 33, 3) := by decide +kernel
theorem zd_PA_countArcs_11 : decode zc_PA_countArcs 11 = .ok (.getfield 61, 3) := by decide +kernel
theorem zd_PA_countArcs_14 : decode zc_PA_countArcs 14 = .ok (.if_icmp .ge 87, 3) := by decide +kernel
theorem zd_PA_countArcs_17 : decode zc_PA_countArcs 17 = .ok (.aload_n 0, 1) := by decide +kernel
theorem zd_PA_countArcs_18 : decode zc_PA_countArcs 18 = .ok (.getfield 37, 3) := by decide +kernel
theorem zd_PA_countArcs_21 : decode zc_PA_countArcs 21 = .ok (.iload 4, 2) := by decide +kernel
theorem zd_PA_countArcs_23 : decode zc_PA_countArcs 23 = .ok (.iaload, 1) := by decide +kernel
theorem zd_PA_countArcs_24 : decode zc_PA_countArcs 24 = .ok (.iload_n 1, 1) := by decide +kernel
theorem zd_PA_countArcs_25 : decode zc_PA_countArcs 25 = .ok (.if_icmp .ne 23, 3) := by decide +kernel
theorem zd_PA_countArcs_28 : decode zc_PA_countArcs 28 = .ok (.aload_n 0, 1) := by decide +kernel
theorem zd_PA_countArcs_29 : decode zc_PA_countArcs 29 = .ok (.getfield 33, 3) := by decide +kernel
theorem zd_PA_countArcs_32 : decode zc_PA_countArcs 32 = .ok (.getfield 99, 3) := by decide +kernel
theorem zd_PA_countArcs_35 : decode zc_PA_countArcs 35 = .ok (.iload 4, 2) := by decide +kernel
theorem zd_PA_countArcs_37 : decode zc_PA_countArcs 37 = .ok (.aload_n 0, 1) := by decide +kernel
theorem zd_PA_countArcs_38 : decode zc_PA_countArcs 38 = .ok (.getfield 18, 3) := by decide +kernel
theorem zd_PA_countArcs_41 : decode zc_PA_countArcs 41 = .ok (.iconst 0, 1) := by decide +kernel
theorem zd_PA_countArcs_42 : decode zc_PA_countArcs 42 = .ok (.invokevirtual 102, 3) := by decide +kernel
theorem zd_PA_countArcs_45 : decode zc_PA_countArcs 45 = .ok (.goto 4, 3) := by decide +kernel
theorem zd_PA_countArcs_48 : decode zc_PA_countArcs 48 = .ok (.iconst 0, 1) := by decide +kernel
theorem zd_PA_countArcs_49 : decode zc_PA_countArcs 49 = .ok (.istore 5, 2) := by decide +kernel
theorem zd_PA_countArcs_51 : decode zc_PA_countArcs 51 = .ok (.iconst 0, 1) := by decide +kernel
theorem zd_PA_countArcs_52 : decode zc_PA_countArcs 52 = .ok (.istore 6, 2) := by decide +kernel
theorem zd_PA_countArcs_54 : decode zc_PA_countArcs 54 = .ok (.iload 6, 2) := by decide +kernel
theorem zd_PA_countArcs_56 : decode zc_PA_countArcs 56 = .ok (.iload 5, 2) := by decide +kernel
theorem zd_PA_countArcs_58 : decode zc_PA_countArcs 58 = .ok (.if_icmp .ge 37, 3) := by decide +kernel
theorem zd_PA_countArcs_61 : decode zc_PA_countArcs 61 = .ok (.iload_n 2, 1) := by decide +kernel
theorem zd_PA_countArcs_62 : decode zc_PA_countArcs 62 = .ok (.aload_n 0, 1) := by decide +kernel
theorem zd_PA_countArcs_63 : decode zc_PA_countArcs 63 = .ok (.getfield 37, 3) := by decide +kernel
theorem zd_PA_countArcs_66 : decode zc_PA_countArcs 66 = .ok (.aload_n 0, 1) := by decide +kernel
theorem zd_PA_countArcs_67 : decode zc_PA_countArcs 67 = .ok (.getfield 18, 3) := by decide +kernel
theorem zd_PA_countArcs_70 : decode zc_PA_countArcs 70 = .ok (.iload 6, 2) := by decide +kernel
theorem zd_PA_countArcs_72 : decode zc_PA_countArcs 72 = .ok (.iaload, 1) := by decide +kernel
theorem zd_PA_countArcs_73 : decode zc_PA_countArcs 73 = .ok (.iaload, 1) := by decide +kernel
theorem zd_PA_countArcs_74 : decode zc_PA_countArcs 74 = .ok (.iload_n 1, 1) := by decide +kernel
theorem zd_PA_countArcs_75 : decode zc_PA_countArcs 75 = .ok (.if_icmp .ne 7, 3) := by decide +kernel
theorem zd_PA_countArcs_78 : decode zc_PA_countArcs 78 = .ok (.iconst 1, 1) := by decide +kernel
theorem zd_PA_countArcs_79 : decode zc_PA_countArcs 79 = .ok (.goto 4, 3) := by decide +kernel
theorem zd_PA_countArcs_82 : decode zc_PA_countArcs 82 = .ok (.iconst 0, 1) := by decide +kernel
theorem zd_PA_countArcs_83 : decode zc_PA_countArcs 83 = .ok (.if_icmp .ne 6, 3) := by decide +kernel
theorem zd_PA_countArcs_86 : decode zc_PA_countArcs 86 = .ok (.iinc 3 1, 3) := by decide +kernel
theorem zd_PA_countArcs_89 : decode zc_PA_countArcs 89 = .ok (.iinc 6 1, 3) := by decide +kernel
theorem zd_PA_countArcs_92 : decode zc_PA_countArcs 92 = .ok (.goto (-38), 3) := by decide +kernel
theorem zd_PA_countArcs_95 : decode zc_PA_countArcs 95 = .ok (.iinc 4 1, 3) := by decide +kernel
theorem zd_PA_countArcs_98 : decode zc_PA_countArcs 98 = .ok (.goto (-93), 3) := by decide +kernel
theorem zd_PA_countArcs_101 : decode zc_PA_countArcs 101 = .ok (.iload_n 3, 1) := by decide +kernel
theorem zd_PA_countArcs_102 : decode zc_PA_countArcs 102 = .ok (.ireturn, 1) := by decide +kernel
