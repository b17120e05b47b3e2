theorem d_K_requireTakeable_0 : decode b_K_requireTakeable 0 = .ok (.aload_n 0, 1) := by decide +kernel
theorem d_K_requireTakeable_1 : decode b_K_requireTakeable 1 = .ok (.iload_n 1, 1) := by decide +kernel
theorem d_K_requireTakeable_2 : decode b_K_requireTakeable 2 = .ok (.invokevirtual 309, 3) := by decide +kernel
theorem d_K_requireTakeable_5 : decode b_K_requireTakeable 5 = .ok (.iconst (-1), 1) := by decide +kernel
theorem d_K_requireTakeable_6 : decode b_K_requireTakeable 6 = .ok (.if_icmp .eq 11, 3) := by decide +kernel
theorem d_K_requireTakeable_9 : decode b_K_requireTakeable 9 = .ok (.aload_n 0, 1) := by decide +kernel
theorem d_K_requireTakeable_10 : decode b_K_requireTakeable 10 = .ok (.getfield 150, 3) := by decide +kernel
theorem d_K_requireTakeable_13 : decode b_K_requireTakeable 13 = .ok (.iload_n 2, 1) := by decide +kernel
theorem d_K_requireTakeable_14 : decode b_K_requireTakeable 14 = .ok (.if_icmp .gt 14, 3) := by decide +kernel
theorem d_K_requireTakeable_17 : decode b_K_requireTakeable 17 = .ok (.new 87, 3) := by decide +kernel
theorem d_K_requireTakeable_20 : decode b_K_requireTakeable 20 = .ok (.dup, 1) := by decide +kernel
theorem d_K_requireTakeable_21 : decode b_K_requireTakeable 21 = .ok (.ldc_w 314, 3) := by decide +kernel
theorem d_K_requireTakeable_24 : decode b_K_requireTakeable 24 = .ok (.invokespecial 91, 3) := by decide +kernel
theorem d_K_requireTakeable_27 : decode b_K_requireTakeable 27 = .ok (.athrow, 1) := by decide +kernel
theorem d_K_requireTakeable_28 : decode b_K_requireTakeable 28 = .ok (.return_, 1) := by decide +kernel
theorem d_K_requireMeans_0 : decode b_K_requireMeans 0 = .ok (.aload_n 0, 1) := by decide +kernel
theorem d_K_requireMeans_1 : decode b_K_requireMeans 1 = .ok (.getfield 15, 3) := by decide +kernel
theorem d_K_requireMeans_4 : decode b_K_requireMeans 4 = .ok (.iload_n 1, 1) := by decide +kernel
theorem d_K_requireMeans_5 : decode b_K_requireMeans 5 = .ok (.aaload, 1) := by decide +kernel
theorem d_K_requireMeans_6 : decode b_K_requireMeans 6 = .ok (.getfield 53, 3) := by decide +kernel
theorem d_K_requireMeans_9 : decode b_K_requireMeans 9 = .ok (.dload_n 2, 1) := by decide +kernel
theorem d_K_requireMeans_10 : decode b_K_requireMeans 10 = .ok (.dcmp .g, 1) := by decide +kernel
theorem d_K_requireMeans_11 : decode b_K_requireMeans 11 = .ok (.ifCond .ge 14, 3) := by decide +kernel
theorem d_K_requireMeans_14 : decode b_K_requireMeans 14 = .ok (.new 87, 3) := by decide +kernel
theorem d_K_requireMeans_17 : decode b_K_requireMeans 17 = .ok (.dup, 1) := by decide +kernel
theorem d_K_requireMeans_18 : decode b_K_requireMeans 18 = .ok (.ldc_w 316, 3) := by decide +kernel
theorem d_K_requireMeans_21 : decode b_K_requireMeans 21 = .ok (.invokespecial 91, 3) := by decide +kernel
theorem d_K_requireMeans_24 : decode b_K_requireMeans 24 = .ok (.athrow, 1) := by decide +kernel
theorem d_K_requireMeans_25 : decode b_K_requireMeans 25 = .ok (.return_, 1) := by decide +kernel
theorem d_K_costOf_0 : decode b_K_costOf 0 = .ok (.aload_n 0, 1) := by decide +kernel
theorem d_K_costOf_1 : decode b_K_costOf 1 = .ok (.getfield 9, 3) := by decide +kernel
theorem d_K_costOf_4 : decode b_K_costOf 4 = .ok (.iload_n 2, 1) := by decide +kernel
theorem d_K_costOf_5 : decode b_K_costOf 5 = .ok (.daload, 1) := by decide +kernel
theorem d_K_costOf_6 : decode b_K_costOf 6 = .ok (.iload_n 3, 1) := by decide +kernel
theorem d_K_costOf_7 : decode b_K_costOf 7 = .ok (.i2d, 1) := by decide +kernel
theorem d_K_costOf_8 : decode b_K_costOf 8 = .ok (.dmul, 1) := by decide +kernel
theorem d_K_costOf_9 : decode b_K_costOf 9 = .ok (.dstore 4, 2) := by decide +kernel
theorem d_K_costOf_11 : decode b_K_costOf 11 = .ok (.aload_n 0, 1) := by decide +kernel
theorem d_K_costOf_12 : decode b_K_costOf 12 = .ok (.getfield 15, 3) := by decide +kernel
theorem d_K_costOf_15 : decode b_K_costOf 15 = .ok (.iload_n 1, 1) := by decide +kernel
theorem d_K_costOf_16 : decode b_K_costOf 16 = .ok (.aaload, 1) := by decide +kernel
theorem d_K_costOf_17 : decode b_K_costOf 17 = .ok (.getfield 53, 3) := by decide +kernel
theorem d_K_costOf_20 : decode b_K_costOf 20 = .ok (.ldc2_w 318, 3) := by decide +kernel
theorem d_K_costOf_23 : decode b_K_costOf 23 = .ok (.dcmp .l, 1) := by decide +kernel
theorem d_K_costOf_24 : decode b_K_costOf 24 = .ok (.ifCond .lt 12, 3) := by decide +kernel
theorem d_K_costOf_27 : decode b_K_costOf 27 = .ok (.dload 4, 2) := by decide +kernel
theorem d_K_costOf_29 : decode b_K_costOf 29 = .ok (.ldc2_w 320, 3) := by decide +kernel
theorem d_K_costOf_32 : decode b_K_costOf 32 = .ok (.dmul, 1) := by decide +kernel
theorem d_K_costOf_33 : decode b_K_costOf 33 = .ok (.goto 5, 3) := by decide +kernel
theorem d_K_costOf_36 : decode b_K_costOf 36 = .ok (.dload 4, 2) := by decide +kernel
theorem d_K_costOf_38 : decode b_K_costOf 38 = .ok (.dreturn, 1) := by decide +kernel
theorem d_K_payFor_0 : decode b_K_payFor 0 = .ok (.aload_n 0, 1) := by decide +kernel
theorem d_K_payFor_1 : decode b_K_payFor 1 = .ok (.iload_n 1, 1) := by decide +kernel
theorem d_K_payFor_2 : decode b_K_payFor 2 = .ok (.iload_n 2, 1) := by decide +kernel
theorem d_K_payFor_3 : decode b_K_payFor 3 = .ok (.iload_n 3, 1) := by decide +kernel
theorem d_K_payFor_4 : decode b_K_payFor 4 = .ok (.invokevirtual 212, 3) := by decide +kernel
theorem d_K_payFor_7 : decode b_K_payFor 7 = .ok (.dstore 4, 2) := by decide +kernel
theorem d_K_payFor_9 : decode b_K_payFor 9 = .ok (.aload_n 0, 1) := by decide +kernel
theorem d_K_payFor_10 : decode b_K_payFor 10 = .ok (.iload_n 1, 1) := by decide +kernel
theorem d_K_payFor_11 : decode b_K_payFor 11 = .ok (.dload 4, 2) := by decide +kernel
theorem d_K_payFor_13 : decode b_K_payFor 13 = .ok (.invokevirtual 215, 3) := by decide +kernel
theorem d_K_payFor_16 : decode b_K_payFor 16 = .ok (.aload_n 0, 1) := by decide +kernel
theorem d_K_payFor_17 : decode b_K_payFor 17 = .ok (.getfield 15, 3) := by decide +kernel
theorem d_K_payFor_20 : decode b_K_payFor 20 = .ok (.iload_n 1, 1) := by decide +kernel
theorem d_K_payFor_21 : decode b_K_payFor 21 = .ok (.aaload, 1) := by decide +kernel
theorem d_K_payFor_22 : decode b_K_payFor 22 = .ok (.iload_n 2, 1) := by decide +kernel
theorem d_K_payFor_23 : decode b_K_payFor 23 = .ok (.dload 4, 2) := by decide +kernel
theorem d_K_payFor_25 : decode b_K_payFor 25 = .ok (.invokevirtual 322, 3) := by decide +kernel
theorem d_K_payFor_28 : decode b_K_payFor 28 = .ok (.dload 4, 2) := by decide +kernel
theorem d_K_payFor_30 : decode b_K_payFor 30 = .ok (.dreturn, 1) := by decide +kernel
theorem d_K_finishTransfer_0 : decode b_K_finishTransfer 0 = .ok (.aload_n 0, 1) := by decide +kernel
theorem d_K_finishTransfer_1 : decode b_K_finishTransfer 1 = .ok (.getfield 29, 3) := by decide +kernel
theorem d_K_finishTransfer_4 : decode b_K_finishTransfer 4 = .ok (.iload_n 1, 1) := by decide +kernel
theorem d_K_finishTransfer_5 : decode b_K_finishTransfer 5 = .ok (.aaload, 1) := by decide +kernel
theorem d_K_finishTransfer_6 : decode b_K_finishTransfer 6 = .ok (.astore_n 2, 1) := by decide +kernel
theorem d_K_finishTransfer_7 : decode b_K_finishTransfer 7 = .ok (.aload_n 2, 1) := by decide +kernel
theorem d_K_finishTransfer_8 : decode b_K_finishTransfer 8 = .ok (.getfield 69, 3) := by decide +kernel
theorem d_K_finishTransfer_11 : decode b_K_finishTransfer 11 = .ok (.istore_n 3, 1) := by decide +kernel
theorem d_K_finishTransfer_12 : decode b_K_finishTransfer 12 = .ok (.aload_n 2, 1) := by decide +kernel
theorem d_K_finishTransfer_13 : decode b_K_finishTransfer 13 = .ok (.getfield 193, 3) := by decide +kernel
theorem d_K_finishTransfer_16 : decode b_K_finishTransfer 16 = .ok (.istore 4, 2) := by decide +kernel
theorem d_K_finishTransfer_18 : decode b_K_finishTransfer 18 = .ok (.aload_n 0, 1) := by decide +kernel
theorem d_K_finishTransfer_19 : decode b_K_finishTransfer 19 = .ok (.iload 4, 2) := by decide +kernel
theorem d_K_finishTransfer_21 : decode b_K_finishTransfer 21 = .ok (.iconst 2, 1) := by decide +kernel
theorem d_K_finishTransfer_22 : decode b_K_finishTransfer 22 = .ok (.iconst 1, 1) := by decide +kernel
theorem d_K_finishTransfer_23 : decode b_K_finishTransfer 23 = .ok (.invokevirtual 212, 3) := by decide +kernel
theorem d_K_finishTransfer_26 : decode b_K_finishTransfer 26 = .ok (.dstore 5, 2) := by decide +kernel
theorem d_K_finishTransfer_28 : decode b_K_finishTransfer 28 = .ok (.aload_n 0, 1) := by decide +kernel
theorem d_K_finishTransfer_29 : decode b_K_finishTransfer 29 = .ok (.getfield 15, 3) := by decide +kernel
theorem d_K_finishTransfer_32 : decode b_K_finishTransfer 32 = .ok (.iload 4, 2) := by decide +kernel
theorem d_K_finishTransfer_34 : decode b_K_finishTransfer 34 = .ok (.aaload, 1) := by decide +kernel
theorem d_K_finishTransfer_35 : decode b_K_finishTransfer 35 = .ok (.iconst 2, 1) := by decide +kernel
theorem d_K_finishTransfer_36 : decode b_K_finishTransfer 36 = .ok (.dload 5, 2) := by decide +kernel
theorem d_K_finishTransfer_38 : decode b_K_finishTransfer 38 = .ok (.invokevirtual 322, 3) := by decide +kernel
theorem d_K_finishTransfer_41 : decode b_K_finishTransfer 41 = .ok (.aload_n 2, 1) := by decide +kernel
theorem d_K_finishTransfer_42 : decode b_K_finishTransfer 42 = .ok (.iconst (-1), 1) := by decide +kernel
theorem d_K_finishTransfer_43 : decode b_K_finishTransfer 43 = .ok (.putfield 193, 3) := by decide +kernel
theorem d_K_finishTransfer_46 : decode b_K_finishTransfer 46 = .ok (.aload_n 2, 1) := by decide +kernel
theorem d_K_finishTransfer_47 : decode b_K_finishTransfer 47 = .ok (.iload 4, 2) := by decide +kernel
theorem d_K_finishTransfer_49 : decode b_K_finishTransfer 49 = .ok (.putfield 69, 3) := by decide +kernel
theorem d_K_finishTransfer_52 : decode b_K_finishTransfer 52 = .ok (.aload_n 2, 1) := by decide +kernel
theorem d_K_finishTransfer_53 : decode b_K_finishTransfer 53 = .ok (.dup, 1) := by decide +kernel
theorem d_K_finishTransfer_54 : decode b_K_finishTransfer 54 = .ok (.getfield 120, 3) := by decide +kernel
theorem d_K_finishTransfer_57 : decode b_K_finishTransfer 57 = .ok (.bipush 10, 2) := by decide +kernel
theorem d_K_finishTransfer_59 : decode b_K_finishTransfer 59 = .ok (.iadd, 1) := by decide +kernel
theorem d_K_finishTransfer_60 : decode b_K_finishTransfer 60 = .ok (.putfield 120, 3) := by decide +kernel
theorem d_K_finishTransfer_63 : decode b_K_finishTransfer 63 = .ok (.aload_n 2, 1) := by decide +kernel
theorem d_K_finishTransfer_64 : decode b_K_finishTransfer 64 = .ok (.invokevirtual 179, 3) := by decide +kernel
theorem d_K_finishTransfer_67 : decode b_K_finishTransfer 67 = .ok (.aload_n 2, 1) := by decide +kernel
theorem d_K_finishTransfer_68 : decode b_K_finishTransfer 68 = .ok (.iconst 2, 1) := by decide +kernel
theorem d_K_finishTransfer_69 : decode b_K_finishTransfer 69 = .ok (.dload 5, 2) := by decide +kernel
theorem d_K_finishTransfer_71 : decode b_K_finishTransfer 71 = .ok (.aload_n 0, 1) := by decide +kernel
theorem d_K_finishTransfer_72 : decode b_K_finishTransfer 72 = .ok (.getfield 34, 3) := by decide +kernel
theorem d_K_finishTransfer_75 : decode b_K_finishTransfer 75 = .ok (.iconst 3, 1) := by decide +kernel
theorem d_K_finishTransfer_76 : decode b_K_finishTransfer 76 = .ok (.iadd, 1) := by decide +kernel
theorem d_K_finishTransfer_77 : decode b_K_finishTransfer 77 = .ok (.invokevirtual 116, 3) := by decide +kernel
theorem d_K_finishTransfer_80 : decode b_K_finishTransfer 80 = .ok (.aload_n 0, 1) := by decide +kernel
theorem d_K_finishTransfer_81 : decode b_K_finishTransfer 81 = .ok (.getfield 22, 3) := by decide +kernel
theorem d_K_finishTransfer_84 : decode b_K_finishTransfer 84 = .ok (.iconst 1, 1) := by decide +kernel
theorem d_K_finishTransfer_85 : decode b_K_finishTransfer 85 = .ok (.aaload, 1) := by decide +kernel
theorem d_K_finishTransfer_86 : decode b_K_finishTransfer 86 = .ok (.iload_n 1, 1) := by decide +kernel
theorem d_K_finishTransfer_87 : decode b_K_finishTransfer 87 = .ok (.iload 4, 2) := by decide +kernel
theorem d_K_finishTransfer_89 : decode b_K_finishTransfer 89 = .ok (.invokevirtual 325, 3) := by decide +kernel
theorem d_K_finishTransfer_92 : decode b_K_finishTransfer 92 = .ok (.aload_n 0, 1) := by decide +kernel
theorem d_K_finishTransfer_93 : decode b_K_finishTransfer 93 = .ok (.getfield 15, 3) := by decide +kernel
theorem d_K_finishTransfer_96 : decode b_K_finishTransfer 96 = .ok (.iload_n 3, 1) := by decide +kernel
theorem d_K_finishTransfer_97 : decode b_K_finishTransfer 97 = .ok (.aaload, 1) := by decide +kernel
theorem d_K_finishTransfer_98 : decode b_K_finishTransfer 98 = .ok (.iconst 2, 1) := by decide +kernel
theorem d_K_finishTransfer_99 : decode b_K_finishTransfer 99 = .ok (.iload_n 1, 1) := by decide +kernel
theorem d_K_finishTransfer_100 : decode b_K_finishTransfer 100 = .ok (.invokevirtual 199, 3) := by decide +kernel
theorem d_K_finishTransfer_103 : decode b_K_finishTransfer 103 = .ok (.aload_n 0, 1) := by decide +kernel
theorem d_K_finishTransfer_104 : decode b_K_finishTransfer 104 = .ok (.getfield 15, 3) := by decide +kernel
theorem d_K_finishTransfer_107 : decode b_K_finishTransfer 107 = .ok (.iload 4, 2) := by decide +kernel
theorem d_K_finishTransfer_109 : decode b_K_finishTransfer 109 = .ok (.aaload, 1) := by decide +kernel
theorem d_K_finishTransfer_110 : decode b_K_finishTransfer 110 = .ok (.iconst 2, 1) := by decide +kernel
theorem d_K_finishTransfer_111 : decode b_K_finishTransfer 111 = .ok (.iload_n 1, 1) := by decide +kernel
theorem d_K_finishTransfer_112 : decode b_K_finishTransfer 112 = .ok (.invokevirtual 199, 3) := by decide +kernel
theorem d_K_finishTransfer_115 : decode b_K_finishTransfer 115 = .ok (.return_, 1) := by decide +kernel
theorem d_K_endTransfer_0 : decode b_K_endTransfer 0 = .ok (.aload_n 0, 1) := by decide +kernel
theorem d_K_endTransfer_1 : decode b_K_endTransfer 1 = .ok (.getfield 29, 3) := by decide +kernel
theorem d_K_endTransfer_4 : decode b_K_endTransfer 4 = .ok (.iload_n 1, 1) := by decide +kernel
theorem d_K_endTransfer_5 : decode b_K_endTransfer 5 = .ok (.aaload, 1) := by decide +kernel
theorem d_K_endTransfer_6 : decode b_K_endTransfer 6 = .ok (.astore_n 2, 1) := by decide +kernel
theorem d_K_endTransfer_7 : decode b_K_endTransfer 7 = .ok (.aload_n 2, 1) := by decide +kernel
theorem d_K_endTransfer_8 : decode b_K_endTransfer 8 = .ok (.getfield 193, 3) := by decide +kernel
theorem d_K_endTransfer_11 : decode b_K_endTransfer 11 = .ok (.istore_n 3, 1) := by decide +kernel
theorem d_K_endTransfer_12 : decode b_K_endTransfer 12 = .ok (.aload_n 2, 1) := by decide +kernel
theorem d_K_endTransfer_13 : decode b_K_endTransfer 13 = .ok (.iconst (-1), 1) := by decide +kernel
theorem d_K_endTransfer_14 : decode b_K_endTransfer 14 = .ok (.putfield 193, 3) := by decide +kernel
theorem d_K_endTransfer_17 : decode b_K_endTransfer 17 = .ok (.aload_n 0, 1) := by decide +kernel
theorem d_K_endTransfer_18 : decode b_K_endTransfer 18 = .ok (.getfield 15, 3) := by decide +kernel
theorem d_K_endTransfer_21 : decode b_K_endTransfer 21 = .ok (.iload_n 3, 1) := by decide +kernel
theorem d_K_endTransfer_22 : decode b_K_endTransfer 22 = .ok (.aaload, 1) := by decide +kernel
theorem d_K_endTransfer_23 : decode b_K_endTransfer 23 = .ok (.iconst 3, 1) := by decide +kernel
theorem d_K_endTransfer_24 : decode b_K_endTransfer 24 = .ok (.iload_n 1, 1) := by decide +kernel
theorem d_K_endTransfer_25 : decode b_K_endTransfer 25 = .ok (.invokevirtual 199, 3) := by decide +kernel
theorem d_K_endTransfer_28 : decode b_K_endTransfer 28 = .ok (.return_, 1) := by decide +kernel
theorem d_K_passDay_0 : decode b_K_passDay 0 = .ok (.aload_n 0, 1) := by decide +kernel
theorem d_K_passDay_1 : decode b_K_passDay 1 = .ok (.dup, 1) := by decide +kernel
theorem d_K_passDay_2 : decode b_K_passDay 2 = .ok (.getfield 34, 3) := by decide +kernel
theorem d_K_passDay_5 : decode b_K_passDay 5 = .ok (.iconst 1, 1) := by decide +kernel
theorem d_K_passDay_6 : decode b_K_passDay 6 = .ok (.iadd, 1) := by decide +kernel
theorem d_K_passDay_7 : decode b_K_passDay 7 = .ok (.putfield 34, 3) := by decide +kernel
theorem d_K_passDay_10 : decode b_K_passDay 10 = .ok (.iconst 0, 1) := by decide +kernel
theorem d_K_passDay_11 : decode b_K_passDay 11 = .ok (.istore_n 1, 1) := by decide +kernel
theorem d_K_passDay_12 : decode b_K_passDay 12 = .ok (.iload_n 1, 1) := by decide +kernel
theorem d_K_passDay_13 : decode b_K_passDay 13 = .ok (.bipush 10, 2) := by decide +kernel
theorem d_K_passDay_15 : decode b_K_passDay 15 = .ok (.if_icmp .ge 31, 3) := by decide +kernel
theorem d_K_passDay_18 : decode b_K_passDay 18 = .ok (.aload_n 0, 1) := by decide +kernel
theorem d_K_passDay_19 : decode b_K_passDay 19 = .ok (.getfield 29, 3) := by decide +kernel
theorem d_K_passDay_22 : decode b_K_passDay 22 = .ok (.iload_n 1, 1) := by decide +kernel
theorem d_K_passDay_23 : decode b_K_passDay 23 = .ok (.aaload, 1) := by decide +kernel
theorem d_K_passDay_24 : decode b_K_passDay 24 = .ok (.getfield 105, 3) := by decide +kernel
theorem d_K_passDay_27 : decode b_K_passDay 27 = .ok (.ifCond .eq 13, 3) := by decide +kernel
theorem d_K_passDay_30 : decode b_K_passDay 30 = .ok (.aload_n 0, 1) := by decide +kernel
theorem d_K_passDay_31 : decode b_K_passDay 31 = .ok (.iload_n 1, 1) := by decide +kernel
theorem d_K_passDay_32 : decode b_K_passDay 32 = .ok (.invokevirtual 328, 3) := by decide +kernel
theorem d_K_passDay_35 : decode b_K_passDay 35 = .ok (.aload_n 0, 1) := by decide +kernel
theorem d_K_passDay_36 : decode b_K_passDay 36 = .ok (.iload_n 1, 1) := by decide +kernel
theorem d_K_passDay_37 : decode b_K_passDay 37 = .ok (.invokevirtual 331, 3) := by decide +kernel
theorem d_K_passDay_40 : decode b_K_passDay 40 = .ok (.iinc 1 1, 3) := by decide +kernel
theorem d_K_passDay_43 : decode b_K_passDay 43 = .ok (.goto (-31), 3) := by decide +kernel
theorem d_K_passDay_46 : decode b_K_passDay 46 = .ok (.return_, 1) := by decide +kernel
theorem d_K_settleTransfer_0 : decode b_K_settleTransfer 0 = .ok (.aload_n 0, 1) := by decide +kernel
theorem d_K_settleTransfer_1 : decode b_K_settleTransfer 1 = .ok (.getfield 29, 3) := by decide +kernel
theorem d_K_settleTransfer_4 : decode b_K_settleTransfer 4 = .ok (.iload_n 1, 1) := by decide +kernel
theorem d_K_settleTransfer_5 : decode b_K_settleTransfer 5 = .ok (.aaload, 1) := by decide +kernel
theorem d_K_settleTransfer_6 : decode b_K_settleTransfer 6 = .ok (.astore_n 2, 1) := by decide +kernel
theorem d_K_settleTransfer_7 : decode b_K_settleTransfer 7 = .ok (.aload_n 2, 1) := by decide +kernel
theorem d_K_settleTransfer_8 : decode b_K_settleTransfer 8 = .ok (.getfield 193, 3) := by decide +kernel
theorem d_K_settleTransfer_11 : decode b_K_settleTransfer 11 = .ok (.istore_n 3, 1) := by decide +kernel
theorem d_K_settleTransfer_12 : decode b_K_settleTransfer 12 = .ok (.iload_n 3, 1) := by decide +kernel
theorem d_K_settleTransfer_13 : decode b_K_settleTransfer 13 = .ok (.iconst (-1), 1) := by decide +kernel
theorem d_K_settleTransfer_14 : decode b_K_settleTransfer 14 = .ok (.if_icmp .eq 14, 3) := by decide +kernel
theorem d_K_settleTransfer_17 : decode b_K_settleTransfer 17 = .ok (.aload_n 2, 1) := by decide +kernel
theorem d_K_settleTransfer_18 : decode b_K_settleTransfer 18 = .ok (.getfield 196, 3) := by decide +kernel
theorem d_K_settleTransfer_21 : decode b_K_settleTransfer 21 = .ok (.aload_n 0, 1) := by decide +kernel
theorem d_K_settleTransfer_22 : decode b_K_settleTransfer 22 = .ok (.getfield 34, 3) := by decide +kernel
theorem d_K_settleTransfer_25 : decode b_K_settleTransfer 25 = .ok (.if_icmp .lt 4, 3) := by decide +kernel
theorem d_K_settleTransfer_28 : decode b_K_settleTransfer 28 = .ok (.return_, 1) := by decide +kernel
theorem d_K_settleTransfer_29 : decode b_K_settleTransfer 29 = .ok (.aload_n 0, 1) := by decide +kernel
theorem d_K_settleTransfer_30 : decode b_K_settleTransfer 30 = .ok (.getfield 15, 3) := by decide +kernel
theorem d_K_settleTransfer_33 : decode b_K_settleTransfer 33 = .ok (.iload_n 3, 1) := by decide +kernel
theorem d_K_settleTransfer_34 : decode b_K_settleTransfer 34 = .ok (.aaload, 1) := by decide +kernel
theorem d_K_settleTransfer_35 : decode b_K_settleTransfer 35 = .ok (.getfield 53, 3) := by decide +kernel
theorem d_K_settleTransfer_38 : decode b_K_settleTransfer 38 = .ok (.aload_n 0, 1) := by decide +kernel
theorem d_K_settleTransfer_39 : decode b_K_settleTransfer 39 = .ok (.iload_n 3, 1) := by decide +kernel
theorem d_K_settleTransfer_40 : decode b_K_settleTransfer 40 = .ok (.iconst 2, 1) := by decide +kernel
theorem d_K_settleTransfer_41 : decode b_K_settleTransfer 41 = .ok (.iconst 1, 1) := by decide +kernel
theorem d_K_settleTransfer_42 : decode b_K_settleTransfer 42 = .ok (.invokevirtual 212, 3) := by decide +kernel
theorem d_K_settleTransfer_45 : decode b_K_settleTransfer 45 = .ok (.dcmp .g, 1) := by decide +kernel
theorem d_K_settleTransfer_46 : decode b_K_settleTransfer 46 = .ok (.ifCond .ge 11, 3) := by decide +kernel
theorem d_K_settleTransfer_49 : decode b_K_settleTransfer 49 = .ok (.aload_n 0, 1) := by decide +kernel
theorem d_K_settleTransfer_50 : decode b_K_settleTransfer 50 = .ok (.iload_n 1, 1) := by decide +kernel
theorem d_K_settleTransfer_51 : decode b_K_settleTransfer 51 = .ok (.invokevirtual 209, 3) := by decide +kernel
theorem d_K_settleTransfer_54 : decode b_K_settleTransfer 54 = .ok (.goto 8, 3) := by decide +kernel
theorem d_K_settleTransfer_57 : decode b_K_settleTransfer 57 = .ok (.aload_n 0, 1) := by decide +kernel
theorem d_K_settleTransfer_58 : decode b_K_settleTransfer 58 = .ok (.iload_n 1, 1) := by decide +kernel
theorem d_K_settleTransfer_59 : decode b_K_settleTransfer 59 = .ok (.invokevirtual 219, 3) := by decide +kernel
theorem d_K_settleTransfer_62 : decode b_K_settleTransfer 62 = .ok (.return_, 1) := by decide +kernel
theorem d_K_moveOn_0 : decode b_K_moveOn 0 = .ok (.aload_n 0, 1) := by decide +kernel
theorem d_K_moveOn_1 : decode b_K_moveOn 1 = .ok (.getfield 29, 3) := by decide +kernel
theorem d_K_moveOn_4 : decode b_K_moveOn 4 = .ok (.iload_n 1, 1) := by decide +kernel
theorem d_K_moveOn_5 : decode b_K_moveOn 5 = .ok (.aaload, 1) := by decide +kernel
theorem d_K_moveOn_6 : decode b_K_moveOn 6 = .ok (.astore_n 2, 1) := by decide +kernel
theorem d_K_moveOn_7 : decode b_K_moveOn 7 = .ok (.aload_n 2, 1) := by decide +kernel
theorem d_K_moveOn_8 : decode b_K_moveOn 8 = .ok (.getfield 242, 3) := by decide +kernel
theorem d_K_moveOn_11 : decode b_K_moveOn 11 = .ok (.ifCond .ne 22, 3) := by decide +kernel
theorem d_K_moveOn_14 : decode b_K_moveOn 14 = .ok (.aload_n 2, 1) := by decide +kernel
theorem d_K_moveOn_15 : decode b_K_moveOn 15 = .ok (.getfield 120, 3) := by decide +kernel
theorem d_K_moveOn_18 : decode b_K_moveOn 18 = .ok (.aload_n 0, 1) := by decide +kernel
theorem d_K_moveOn_19 : decode b_K_moveOn 19 = .ok (.getfield 34, 3) := by decide +kernel
theorem d_K_moveOn_22 : decode b_K_moveOn 22 = .ok (.if_icmp .ge 63, 3) := by decide +kernel
theorem d_K_moveOn_25 : decode b_K_moveOn 25 = .ok (.aload_n 0, 1) := by decide +kernel
theorem d_K_moveOn_26 : decode b_K_moveOn 26 = .ok (.aload_n 2, 1) := by decide +kernel
theorem d_K_moveOn_27 : decode b_K_moveOn 27 = .ok (.invokevirtual 334, 3) := by decide +kernel
theorem d_K_moveOn_30 : decode b_K_moveOn 30 = .ok (.goto 55, 3) := by decide +kernel
theorem d_K_moveOn_33 : decode b_K_moveOn 33 = .ok (.aload_n 2, 1) := by decide +kernel
theorem d_K_moveOn_34 : decode b_K_moveOn 34 = .ok (.getfield 337, 3) := by decide +kernel
theorem d_K_moveOn_37 : decode b_K_moveOn 37 = .ok (.aload_n 0, 1) := by decide +kernel
theorem d_K_moveOn_38 : decode b_K_moveOn 38 = .ok (.getfield 34, 3) := by decide +kernel
theorem d_K_moveOn_41 : decode b_K_moveOn 41 = .ok (.if_icmp .ge 44, 3) := by decide +kernel
theorem d_K_moveOn_44 : decode b_K_moveOn 44 = .ok (.aload_n 2, 1) := by decide +kernel
theorem d_K_moveOn_45 : decode b_K_moveOn 45 = .ok (.getfield 242, 3) := by decide +kernel
theorem d_K_moveOn_48 : decode b_K_moveOn 48 = .ok (.iconst 1, 1) := by decide +kernel
theorem d_K_moveOn_49 : decode b_K_moveOn 49 = .ok (.if_icmp .ne 17, 3) := by decide +kernel
theorem d_K_moveOn_52 : decode b_K_moveOn 52 = .ok (.aload_n 2, 1) := by decide +kernel
theorem d_K_moveOn_53 : decode b_K_moveOn 53 = .ok (.iconst 2, 1) := by decide +kernel
theorem d_K_moveOn_54 : decode b_K_moveOn 54 = .ok (.aload_n 2, 1) := by decide +kernel
theorem d_K_moveOn_55 : decode b_K_moveOn 55 = .ok (.getfield 337, 3) := by decide +kernel
theorem d_K_moveOn_58 : decode b_K_moveOn 58 = .ok (.iconst 2, 1) := by decide +kernel
theorem d_K_moveOn_59 : decode b_K_moveOn 59 = .ok (.iadd, 1) := by decide +kernel
theorem d_K_moveOn_60 : decode b_K_moveOn 60 = .ok (.invokevirtual 182, 3) := by decide +kernel
theorem d_K_moveOn_63 : decode b_K_moveOn 63 = .ok (.goto 22, 3) := by decide +kernel
theorem d_K_moveOn_66 : decode b_K_moveOn 66 = .ok (.aload_n 0, 1) := by decide +kernel
theorem d_K_moveOn_67 : decode b_K_moveOn 67 = .ok (.iload_n 1, 1) := by decide +kernel
theorem d_K_moveOn_68 : decode b_K_moveOn 68 = .ok (.invokevirtual 176, 3) := by decide +kernel
theorem d_K_moveOn_71 : decode b_K_moveOn 71 = .ok (.aload_n 0, 1) := by decide +kernel
theorem d_K_moveOn_72 : decode b_K_moveOn 72 = .ok (.getfield 15, 3) := by decide +kernel
theorem d_K_moveOn_75 : decode b_K_moveOn 75 = .ok (.aload_n 2, 1) := by decide +kernel
theorem d_K_moveOn_76 : decode b_K_moveOn 76 = .ok (.getfield 69, 3) := by decide +kernel
theorem d_K_moveOn_79 : decode b_K_moveOn 79 = .ok (.aaload, 1) := by decide +kernel
theorem d_K_moveOn_80 : decode b_K_moveOn 80 = .ok (.iconst 4, 1) := by decide +kernel
theorem d_K_moveOn_81 : decode b_K_moveOn 81 = .ok (.iload_n 1, 1) := by decide +kernel
theorem d_K_moveOn_82 : decode b_K_moveOn 82 = .ok (.invokevirtual 199, 3) := by decide +kernel
theorem d_K_moveOn_85 : decode b_K_moveOn 85 = .ok (.return_, 1) := by decide +kernel
theorem d_K_renewByItself_0 : decode b_K_renewByItself 0 = .ok (.aload_n 0, 1) := by decide +kernel
theorem d_K_renewByItself_1 : decode b_K_renewByItself 1 = .ok (.aload_n 1, 1) := by decide +kernel
theorem d_K_renewByItself_2 : decode b_K_renewByItself 2 = .ok (.getfield 69, 3) := by decide +kernel
theorem d_K_renewByItself_5 : decode b_K_renewByItself 5 = .ok (.iconst 1, 1) := by decide +kernel
theorem d_K_renewByItself_6 : decode b_K_renewByItself 6 = .ok (.iconst 1, 1) := by decide +kernel
theorem d_K_renewByItself_7 : decode b_K_renewByItself 7 = .ok (.invokevirtual 212, 3) := by decide +kernel
theorem d_K_renewByItself_10 : decode b_K_renewByItself 10 = .ok (.dstore_n 2, 1) := by decide +kernel
theorem d_K_renewByItself_11 : decode b_K_renewByItself 11 = .ok (.aload_n 0, 1) := by decide +kernel
theorem d_K_renewByItself_12 : decode b_K_renewByItself 12 = .ok (.getfield 15, 3) := by decide +kernel
theorem d_K_renewByItself_15 : decode b_K_renewByItself 15 = .ok (.aload_n 1, 1) := by decide +kernel
theorem d_K_renewByItself_16 : decode b_K_renewByItself 16 = .ok (.getfield 69, 3) := by decide +kernel
theorem d_K_renewByItself_19 : decode b_K_renewByItself 19 = .ok (.aaload, 1) := by decide +kernel
theorem d_K_renewByItself_20 : decode b_K_renewByItself 20 = .ok (.iconst 1, 1) := by decide +kernel
theorem d_K_renewByItself_21 : decode b_K_renewByItself 21 = .ok (.dload_n 2, 1) := by decide +kernel
theorem d_K_renewByItself_22 : decode b_K_renewByItself 22 = .ok (.invokevirtual 322, 3) := by decide +kernel
theorem d_K_renewByItself_25 : decode b_K_renewByItself 25 = .ok (.aload_n 1, 1) := by decide +kernel
theorem d_K_renewByItself_26 : decode b_K_renewByItself 26 = .ok (.dup, 1) := by decide +kernel
theorem d_K_renewByItself_27 : decode b_K_renewByItself 27 = .ok (.getfield 120, 3) := by decide +kernel
theorem d_K_renewByItself_30 : decode b_K_renewByItself 30 = .ok (.bipush 10, 2) := by decide +kernel
theorem d_K_renewByItself_32 : decode b_K_renewByItself 32 = .ok (.iadd, 1) := by decide +kernel
theorem d_K_renewByItself_33 : decode b_K_renewByItself 33 = .ok (.putfield 120, 3) := by decide +kernel
theorem d_K_renewByItself_36 : decode b_K_renewByItself 36 = .ok (.aload_n 1, 1) := by decide +kernel
theorem d_K_renewByItself_37 : decode b_K_renewByItself 37 = .ok (.iconst 4, 1) := by decide +kernel
theorem d_K_renewByItself_38 : decode b_K_renewByItself 38 = .ok (.dload_n 2, 1) := by decide +kernel
theorem d_K_renewByItself_39 : decode b_K_renewByItself 39 = .ok (.aload_n 0, 1) := by decide +kernel
theorem d_K_renewByItself_40 : decode b_K_renewByItself 40 = .ok (.getfield 34, 3) := by decide +kernel
theorem d_K_renewByItself_43 : decode b_K_renewByItself 43 = .ok (.iconst 4, 1) := by decide +kernel
theorem d_K_renewByItself_44 : decode b_K_renewByItself 44 = .ok (.iadd, 1) := by decide +kernel
theorem d_K_renewByItself_45 : decode b_K_renewByItself 45 = .ok (.invokevirtual 116, 3) := by decide +kernel
theorem d_K_renewByItself_48 : decode b_K_renewByItself 48 = .ok (.return_, 1) := by decide +kernel
theorem d_K_dropDomain_0 : decode b_K_dropDomain 0 = .ok (.aload_n 0, 1) := by decide +kernel
theorem d_K_dropDomain_1 : decode b_K_dropDomain 1 = .ok (.getfield 29, 3) := by decide +kernel
theorem d_K_dropDomain_4 : decode b_K_dropDomain 4 = .ok (.iload_n 1, 1) := by decide +kernel
theorem d_K_dropDomain_5 : decode b_K_dropDomain 5 = .ok (.aaload, 1) := by decide +kernel
theorem d_K_dropDomain_6 : decode b_K_dropDomain 6 = .ok (.iconst 0, 1) := by decide +kernel
theorem d_K_dropDomain_7 : decode b_K_dropDomain 7 = .ok (.putfield 105, 3) := by decide +kernel
theorem d_K_dropDomain_10 : decode b_K_dropDomain 10 = .ok (.iconst 0, 1) := by decide +kernel
theorem d_K_dropDomain_11 : decode b_K_dropDomain 11 = .ok (.istore_n 2, 1) := by decide +kernel
theorem d_K_dropDomain_12 : decode b_K_dropDomain 12 = .ok (.iload_n 2, 1) := by decide +kernel
theorem d_K_dropDomain_13 : decode b_K_dropDomain 13 = .ok (.bipush 8, 2) := by decide +kernel
theorem d_K_dropDomain_15 : decode b_K_dropDomain 15 = .ok (.if_icmp .ge 28, 3) := by decide +kernel
theorem d_K_dropDomain_18 : decode b_K_dropDomain 18 = .ok (.aload_n 0, 1) := by decide +kernel
theorem d_K_dropDomain_19 : decode b_K_dropDomain 19 = .ok (.getfield 22, 3) := by decide +kernel
theorem d_K_dropDomain_22 : decode b_K_dropDomain 22 = .ok (.iconst 1, 1) := by decide +kernel
theorem d_K_dropDomain_23 : decode b_K_dropDomain 23 = .ok (.aaload, 1) := by decide +kernel
theorem d_K_dropDomain_24 : decode b_K_dropDomain 24 = .ok (.iload_n 2, 1) := by decide +kernel
theorem d_K_dropDomain_25 : decode b_K_dropDomain 25 = .ok (.iload_n 1, 1) := by decide +kernel
theorem d_K_dropDomain_26 : decode b_K_dropDomain 26 = .ok (.invokevirtual 340, 3) := by decide +kernel
theorem d_K_dropDomain_29 : decode b_K_dropDomain 29 = .ok (.ifCond .eq 8, 3) := by decide +kernel
theorem d_K_dropDomain_32 : decode b_K_dropDomain 32 = .ok (.aload_n 0, 1) := by decide +kernel
theorem d_K_dropDomain_33 : decode b_K_dropDomain 33 = .ok (.iload_n 2, 1) := by decide +kernel
theorem d_K_dropDomain_34 : decode b_K_dropDomain 34 = .ok (.invokevirtual 343, 3) := by decide +kernel
theorem d_K_dropDomain_37 : decode b_K_dropDomain 37 = .ok (.iinc 2 1, 3) := by decide +kernel
theorem d_K_dropDomain_40 : decode b_K_dropDomain 40 = .ok (.goto (-28), 3) := by decide +kernel
theorem d_K_dropDomain_43 : decode b_K_dropDomain 43 = .ok (.return_, 1) := by decide +kernel
theorem d_K_dropHost_0 : decode b_K_dropHost 0 = .ok (.aload_n 0, 1) := by decide +kernel
theorem d_K_dropHost_1 : decode b_K_dropHost 1 = .ok (.getfield 22, 3) := by decide +kernel
theorem d_K_dropHost_4 : decode b_K_dropHost 4 = .ok (.iconst 1, 1) := by decide +kernel
theorem d_K_dropHost_5 : decode b_K_dropHost 5 = .ok (.aaload, 1) := by decide +kernel
theorem d_K_dropHost_6 : decode b_K_dropHost 6 = .ok (.getfield 290, 3) := by decide +kernel
theorem d_K_dropHost_9 : decode b_K_dropHost 9 = .ok (.iload_n 1, 1) := by decide +kernel
theorem d_K_dropHost_10 : decode b_K_dropHost 10 = .ok (.aaload, 1) := by decide +kernel
theorem d_K_dropHost_11 : decode b_K_dropHost 11 = .ok (.iconst 0, 1) := by decide +kernel
theorem d_K_dropHost_12 : decode b_K_dropHost 12 = .ok (.putfield 94, 3) := by decide +kernel
theorem d_K_dropHost_15 : decode b_K_dropHost 15 = .ok (.iconst 0, 1) := by decide +kernel
theorem d_K_dropHost_16 : decode b_K_dropHost 16 = .ok (.istore_n 2, 1) := by decide +kernel
theorem d_K_dropHost_17 : decode b_K_dropHost 17 = .ok (.iload_n 2, 1) := by decide +kernel
theorem d_K_dropHost_18 : decode b_K_dropHost 18 = .ok (.bipush 10, 2) := by decide +kernel
theorem d_K_dropHost_20 : decode b_K_dropHost 20 = .ok (.if_icmp .ge 24, 3) := by decide +kernel
theorem d_K_dropHost_23 : decode b_K_dropHost 23 = .ok (.aload_n 0, 1) := by decide +kernel
theorem d_K_dropHost_24 : decode b_K_dropHost 24 = .ok (.getfield 29, 3) := by decide +kernel
theorem d_K_dropHost_27 : decode b_K_dropHost 27 = .ok (.iload_n 2, 1) := by decide +kernel
theorem d_K_dropHost_28 : decode b_K_dropHost 28 = .ok (.aaload, 1) := by decide +kernel
theorem d_K_dropHost_29 : decode b_K_dropHost 29 = .ok (.getfield 130, 3) := by decide +kernel
theorem d_K_dropHost_32 : decode b_K_dropHost 32 = .ok (.iconst 1, 1) := by decide +kernel
theorem d_K_dropHost_33 : decode b_K_dropHost 33 = .ok (.aaload, 1) := by decide +kernel
theorem d_K_dropHost_34 : decode b_K_dropHost 34 = .ok (.iload_n 1, 1) := by decide +kernel
theorem d_K_dropHost_35 : decode b_K_dropHost 35 = .ok (.invokevirtual 147, 3) := by decide +kernel
theorem d_K_dropHost_38 : decode b_K_dropHost 38 = .ok (.iinc 2 1, 3) := by decide +kernel
theorem d_K_dropHost_41 : decode b_K_dropHost 41 = .ok (.goto (-24), 3) := by decide +kernel
theorem d_K_dropHost_44 : decode b_K_dropHost 44 = .ok (.return_, 1) := by decide +kernel
theorem d_K_usesOf_0 : decode b_K_usesOf 0 = .ok (.iconst 0, 1) := by decide +kernel
theorem d_K_usesOf_1 : decode b_K_usesOf 1 = .ok (.istore_n 3, 1) := by decide +kernel
theorem d_K_usesOf_2 : decode b_K_usesOf 2 = .ok (.iconst 0, 1) := by decide +kernel
theorem d_K_usesOf_3 : decode b_K_usesOf 3 = .ok (.istore 4, 2) := by decide +kernel
theorem d_K_usesOf_5 : decode b_K_usesOf 5 = .ok (.iload 4, 2) := by decide +kernel
theorem d_K_usesOf_7 : decode b_K_usesOf 7 = .ok (.bipush 10, 2) := by decide +kernel
theorem d_K_usesOf_9 : decode b_K_usesOf 9 = .ok (.if_icmp .ge 27, 3) := by decide +kernel
theorem d_K_usesOf_12 : decode b_K_usesOf 12 = .ok (.aload_n 0, 1) := by decide +kernel
theorem d_K_usesOf_13 : decode b_K_usesOf 13 = .ok (.getfield 29, 3) := by decide +kernel
theorem d_K_usesOf_16 : decode b_K_usesOf 16 = .ok (.iload 4, 2) := by decide +kernel
theorem d_K_usesOf_18 : decode b_K_usesOf 18 = .ok (.aaload, 1) := by decide +kernel
theorem d_K_usesOf_19 : decode b_K_usesOf 19 = .ok (.iload_n 1, 1) := by decide +kernel
theorem d_K_usesOf_20 : decode b_K_usesOf 20 = .ok (.iload_n 2, 1) := by decide +kernel
theorem d_K_usesOf_21 : decode b_K_usesOf 21 = .ok (.invokevirtual 346, 3) := by decide +kernel
theorem d_K_usesOf_24 : decode b_K_usesOf 24 = .ok (.ifCond .eq 6, 3) := by decide +kernel
theorem d_K_usesOf_27 : decode b_K_usesOf 27 = .ok (.iinc 3 1, 3) := by decide +kernel
theorem d_K_usesOf_30 : decode b_K_usesOf 30 = .ok (.iinc 4 1, 3) := by decide +kernel
theorem d_K_usesOf_33 : decode b_K_usesOf 33 = .ok (.goto (-28), 3) := by decide +kernel
theorem d_K_usesOf_36 : decode b_K_usesOf 36 = .ok (.iload_n 3, 1) := by decide +kernel
theorem d_K_usesOf_37 : decode b_K_usesOf 37 = .ok (.ireturn, 1) := by decide +kernel
theorem d_K_othersUseHostsUnder_0 : decode b_K_othersUseHostsUnder 0 = .ok (.iconst 0, 1) := by decide +kernel
theorem d_K_othersUseHostsUnder_1 : decode b_K_othersUseHostsUnder 1 = .ok (.istore_n 2, 1) := by decide +kernel
theorem d_K_othersUseHostsUnder_2 : decode b_K_othersUseHostsUnder 2 = .ok (.iload_n 2, 1) := by decide +kernel
theorem d_K_othersUseHostsUnder_3 : decode b_K_othersUseHostsUnder 3 = .ok (.bipush 8, 2) := by decide +kernel
theorem d_K_othersUseHostsUnder_5 : decode b_K_othersUseHostsUnder 5 = .ok (.if_icmp .ge 55, 3) := by decide +kernel
theorem d_K_othersUseHostsUnder_8 : decode b_K_othersUseHostsUnder 8 = .ok (.aload_n 0, 1) := by decide +kernel
theorem d_K_othersUseHostsUnder_9 : decode b_K_othersUseHostsUnder 9 = .ok (.getfield 29, 3) := by decide +kernel
theorem d_K_othersUseHostsUnder_12 : decode b_K_othersUseHostsUnder 12 = .ok (.iload_n 1, 1) := by decide +kernel
theorem d_K_othersUseHostsUnder_13 : decode b_K_othersUseHostsUnder 13 = .ok (.aaload, 1) := by decide +kernel
theorem d_K_othersUseHostsUnder_14 : decode b_K_othersUseHostsUnder 14 = .ok (.iconst 1, 1) := by decide +kernel
theorem d_K_othersUseHostsUnder_15 : decode b_K_othersUseHostsUnder 15 = .ok (.iload_n 2, 1) := by decide +kernel
theorem d_K_othersUseHostsUnder_16 : decode b_K_othersUseHostsUnder 16 = .ok (.invokevirtual 346, 3) := by decide +kernel
theorem d_K_othersUseHostsUnder_19 : decode b_K_othersUseHostsUnder 19 = .ok (.ifCond .eq 7, 3) := by decide +kernel
theorem d_K_othersUseHostsUnder_22 : decode b_K_othersUseHostsUnder 22 = .ok (.iconst 1, 1) := by decide +kernel
theorem d_K_othersUseHostsUnder_23 : decode b_K_othersUseHostsUnder 23 = .ok (.goto 4, 3) := by decide +kernel
theorem d_K_othersUseHostsUnder_26 : decode b_K_othersUseHostsUnder 26 = .ok (.iconst 0, 1) := by decide +kernel
theorem d_K_othersUseHostsUnder_27 : decode b_K_othersUseHostsUnder 27 = .ok (.istore_n 3, 1) := by decide +kernel
theorem d_K_othersUseHostsUnder_28 : decode b_K_othersUseHostsUnder 28 = .ok (.aload_n 0, 1) := by decide +kernel
theorem d_K_othersUseHostsUnder_29 : decode b_K_othersUseHostsUnder 29 = .ok (.getfield 22, 3) := by decide +kernel
theorem d_K_othersUseHostsUnder_32 : decode b_K_othersUseHostsUnder 32 = .ok (.iconst 1, 1) := by decide +kernel
theorem d_K_othersUseHostsUnder_33 : decode b_K_othersUseHostsUnder 33 = .ok (.aaload, 1) := by decide +kernel
theorem d_K_othersUseHostsUnder_34 : decode b_K_othersUseHostsUnder 34 = .ok (.iload_n 2, 1) := by decide +kernel
theorem d_K_othersUseHostsUnder_35 : decode b_K_othersUseHostsUnder 35 = .ok (.iload_n 1, 1) := by decide +kernel
theorem d_K_othersUseHostsUnder_36 : decode b_K_othersUseHostsUnder 36 = .ok (.invokevirtual 340, 3) := by decide +kernel
theorem d_K_othersUseHostsUnder_39 : decode b_K_othersUseHostsUnder 39 = .ok (.ifCond .eq 15, 3) := by decide +kernel
theorem d_K_othersUseHostsUnder_42 : decode b_K_othersUseHostsUnder 42 = .ok (.aload_n 0, 1) := by decide +kernel
theorem d_K_othersUseHostsUnder_43 : decode b_K_othersUseHostsUnder 43 = .ok (.iconst 1, 1) := by decide +kernel
theorem d_K_othersUseHostsUnder_44 : decode b_K_othersUseHostsUnder 44 = .ok (.iload_n 2, 1) := by decide +kernel
theorem d_K_othersUseHostsUnder_45 : decode b_K_othersUseHostsUnder 45 = .ok (.invokevirtual 83, 3) := by decide +kernel
theorem d_K_othersUseHostsUnder_48 : decode b_K_othersUseHostsUnder 48 = .ok (.iload_n 3, 1) := by decide +kernel
theorem d_K_othersUseHostsUnder_49 : decode b_K_othersUseHostsUnder 49 = .ok (.if_icmp .le 5, 3) := by decide +kernel
theorem d_K_othersUseHostsUnder_52 : decode b_K_othersUseHostsUnder 52 = .ok (.iconst 1, 1) := by decide +kernel
theorem d_K_othersUseHostsUnder_53 : decode b_K_othersUseHostsUnder 53 = .ok (.ireturn, 1) := by decide +kernel
theorem d_K_othersUseHostsUnder_54 : decode b_K_othersUseHostsUnder 54 = .ok (.iinc 2 1, 3) := by decide +kernel
theorem d_K_othersUseHostsUnder_57 : decode b_K_othersUseHostsUnder 57 = .ok (.goto (-55), 3) := by decide +kernel
theorem d_K_othersUseHostsUnder_60 : decode b_K_othersUseHostsUnder 60 = .ok (.iconst 0, 1) := by decide +kernel
theorem d_K_othersUseHostsUnder_61 : decode b_K_othersUseHostsUnder 61 = .ok (.ireturn, 1) := by decide +kernel
theorem d_K_domainsThere_0 : decode b_K_domainsThere 0 = .ok (.iconst 0, 1) := by decide +kernel
theorem d_K_domainsThere_1 : decode b_K_domainsThere 1 = .ok (.istore_n 1, 1) := by decide +kernel
theorem d_K_domainsThere_2 : decode b_K_domainsThere 2 = .ok (.iconst 0, 1) := by decide +kernel
theorem d_K_domainsThere_3 : decode b_K_domainsThere 3 = .ok (.istore_n 2, 1) := by decide +kernel
theorem d_K_domainsThere_4 : decode b_K_domainsThere 4 = .ok (.iload_n 2, 1) := by decide +kernel
theorem d_K_domainsThere_5 : decode b_K_domainsThere 5 = .ok (.bipush 10, 2) := by decide +kernel
theorem d_K_domainsThere_7 : decode b_K_domainsThere 7 = .ok (.if_icmp .ge 24, 3) := by decide +kernel
theorem d_K_domainsThere_10 : decode b_K_domainsThere 10 = .ok (.aload_n 0, 1) := by decide +kernel
theorem d_K_domainsThere_11 : decode b_K_domainsThere 11 = .ok (.getfield 29, 3) := by decide +kernel
theorem d_K_domainsThere_14 : decode b_K_domainsThere 14 = .ok (.iload_n 2, 1) := by decide +kernel
theorem d_K_domainsThere_15 : decode b_K_domainsThere 15 = .ok (.aaload, 1) := by decide +kernel
theorem d_K_domainsThere_16 : decode b_K_domainsThere 16 = .ok (.getfield 105, 3) := by decide +kernel
theorem d_K_domainsThere_19 : decode b_K_domainsThere 19 = .ok (.ifCond .eq 6, 3) := by decide +kernel
theorem d_K_domainsThere_22 : decode b_K_domainsThere 22 = .ok (.iinc 1 1, 3) := by decide +kernel
theorem d_K_domainsThere_25 : decode b_K_domainsThere 25 = .ok (.iinc 2 1, 3) := by decide +kernel
theorem d_K_domainsThere_28 : decode b_K_domainsThere 28 = .ok (.goto (-24), 3) := by decide +kernel
theorem d_K_domainsThere_31 : decode b_K_domainsThere 31 = .ok (.iload_n 1, 1) := by decide +kernel
theorem d_K_domainsThere_32 : decode b_K_domainsThere 32 = .ok (.ireturn, 1) := by decide +kernel
theorem d_K_messagesOfAll_0 : decode b_K_messagesOfAll 0 = .ok (.iconst 0, 1) := by decide +kernel
theorem d_K_messagesOfAll_1 : decode b_K_messagesOfAll 1 = .ok (.istore_n 1, 1) := by decide +kernel
theorem d_K_messagesOfAll_2 : decode b_K_messagesOfAll 2 = .ok (.iconst 0, 1) := by decide +kernel
theorem d_K_messagesOfAll_3 : decode b_K_messagesOfAll 3 = .ok (.istore_n 2, 1) := by decide +kernel
theorem d_K_messagesOfAll_4 : decode b_K_messagesOfAll 4 = .ok (.iload_n 2, 1) := by decide +kernel
theorem d_K_messagesOfAll_5 : decode b_K_messagesOfAll 5 = .ok (.iconst 4, 1) := by decide +kernel
theorem d_K_messagesOfAll_6 : decode b_K_messagesOfAll 6 = .ok (.if_icmp .ge 21, 3) := by decide +kernel
theorem d_K_messagesOfAll_9 : decode b_K_messagesOfAll 9 = .ok (.iload_n 1, 1) := by decide +kernel
theorem d_K_messagesOfAll_10 : decode b_K_messagesOfAll 10 = .ok (.aload_n 0, 1) := by decide +kernel
theorem d_K_messagesOfAll_11 : decode b_K_messagesOfAll 11 = .ok (.getfield 15, 3) := by decide +kernel
theorem d_K_messagesOfAll_14 : decode b_K_messagesOfAll 14 = .ok (.iload_n 2, 1) := by decide +kernel
theorem d_K_messagesOfAll_15 : decode b_K_messagesOfAll 15 = .ok (.aaload, 1) := by decide +kernel
theorem d_K_messagesOfAll_16 : decode b_K_messagesOfAll 16 = .ok (.getfield 236, 3) := by decide +kernel
theorem d_K_messagesOfAll_19 : decode b_K_messagesOfAll 19 = .ok (.iadd, 1) := by decide +kernel
theorem d_K_messagesOfAll_20 : decode b_K_messagesOfAll 20 = .ok (.istore_n 1, 1) := by decide +kernel
theorem d_K_messagesOfAll_21 : decode b_K_messagesOfAll 21 = .ok (.iinc 2 1, 3) := by decide +kernel
theorem d_K_messagesOfAll_24 : decode b_K_messagesOfAll 24 = .ok (.goto (-20), 3) := by decide +kernel
theorem d_K_messagesOfAll_27 : decode b_K_messagesOfAll 27 = .ok (.iload_n 1, 1) := by decide +kernel
theorem d_K_messagesOfAll_28 : decode b_K_messagesOfAll 28 = .ok (.ireturn, 1) := by decide +kernel
theorem d_K_zoneRows_0 : decode b_K_zoneRows 0 = .ok (.iconst 0, 1) := by decide +kernel
theorem d_K_zoneRows_1 : decode b_K_zoneRows 1 = .ok (.istore_n 1, 1) := by decide +kernel
theorem d_K_zoneRows_2 : decode b_K_zoneRows 2 = .ok (.iconst 0, 1) := by decide +kernel
theorem d_K_zoneRows_3 : decode b_K_zoneRows 3 = .ok (.istore_n 2, 1) := by decide +kernel
theorem d_K_zoneRows_4 : decode b_K_zoneRows 4 = .ok (.iload_n 2, 1) := by decide +kernel
theorem d_K_zoneRows_5 : decode b_K_zoneRows 5 = .ok (.bipush 10, 2) := by decide +kernel
theorem d_K_zoneRows_7 : decode b_K_zoneRows 7 = .ok (.if_icmp .ge 17, 3) := by decide +kernel
theorem d_K_zoneRows_10 : decode b_K_zoneRows 10 = .ok (.iload_n 1, 1) := by decide +kernel
theorem d_K_zoneRows_11 : decode b_K_zoneRows 11 = .ok (.aload_n 0, 1) := by decide +kernel
theorem d_K_zoneRows_12 : decode b_K_zoneRows 12 = .ok (.iload_n 2, 1) := by decide +kernel
theorem d_K_zoneRows_13 : decode b_K_zoneRows 13 = .ok (.invokevirtual 349, 3) := by decide +kernel
theorem d_K_zoneRows_16 : decode b_K_zoneRows 16 = .ok (.iadd, 1) := by decide +kernel
theorem d_K_zoneRows_17 : decode b_K_zoneRows 17 = .ok (.istore_n 1, 1) := by decide +kernel
theorem d_K_zoneRows_18 : decode b_K_zoneRows 18 = .ok (.iinc 2 1, 3) := by decide +kernel
theorem d_K_zoneRows_21 : decode b_K_zoneRows 21 = .ok (.goto (-17), 3) := by decide +kernel
theorem d_K_zoneRows_24 : decode b_K_zoneRows 24 = .ok (.iload_n 1, 1) := by decide +kernel
theorem d_K_zoneRows_25 : decode b_K_zoneRows 25 = .ok (.ireturn, 1) := by decide +kernel
theorem d_K_zoneRow_0 : decode b_K_zoneRow 0 = .ok (.iload_n 1, 1) := by decide +kernel
theorem d_K_zoneRow_1 : decode b_K_zoneRow 1 = .ok (.istore_n 2, 1) := by decide +kernel
theorem d_K_zoneRow_2 : decode b_K_zoneRow 2 = .ok (.iconst 0, 1) := by decide +kernel
theorem d_K_zoneRow_3 : decode b_K_zoneRow 3 = .ok (.istore_n 3, 1) := by decide +kernel
theorem d_K_zoneRow_4 : decode b_K_zoneRow 4 = .ok (.iload_n 3, 1) := by decide +kernel
theorem d_K_zoneRow_5 : decode b_K_zoneRow 5 = .ok (.bipush 10, 2) := by decide +kernel
theorem d_K_zoneRow_7 : decode b_K_zoneRow 7 = .ok (.if_icmp .ge 34, 3) := by decide +kernel
theorem d_K_zoneRow_10 : decode b_K_zoneRow 10 = .ok (.aload_n 0, 1) := by decide +kernel
theorem d_K_zoneRow_11 : decode b_K_zoneRow 11 = .ok (.iload_n 3, 1) := by decide +kernel
theorem d_K_zoneRow_12 : decode b_K_zoneRow 12 = .ok (.invokevirtual 349, 3) := by decide +kernel
theorem d_K_zoneRow_15 : decode b_K_zoneRow 15 = .ok (.istore 4, 2) := by decide +kernel
theorem d_K_zoneRow_17 : decode b_K_zoneRow 17 = .ok (.iload_n 2, 1) := by decide +kernel
theorem d_K_zoneRow_18 : decode b_K_zoneRow 18 = .ok (.iload 4, 2) := by decide +kernel
theorem d_K_zoneRow_20 : decode b_K_zoneRow 20 = .ok (.if_icmp .ge 10, 3) := by decide +kernel
theorem d_K_zoneRow_23 : decode b_K_zoneRow 23 = .ok (.aload_n 0, 1) := by decide +kernel
theorem d_K_zoneRow_24 : decode b_K_zoneRow 24 = .ok (.iload_n 3, 1) := by decide +kernel
theorem d_K_zoneRow_25 : decode b_K_zoneRow 25 = .ok (.iload_n 2, 1) := by decide +kernel
theorem d_K_zoneRow_26 : decode b_K_zoneRow 26 = .ok (.invokevirtual 352, 3) := by decide +kernel
theorem d_K_zoneRow_29 : decode b_K_zoneRow 29 = .ok (.ireturn, 1) := by decide +kernel
theorem d_K_zoneRow_30 : decode b_K_zoneRow 30 = .ok (.iload_n 2, 1) := by decide +kernel
theorem d_K_zoneRow_31 : decode b_K_zoneRow 31 = .ok (.iload 4, 2) := by decide +kernel
theorem d_K_zoneRow_33 : decode b_K_zoneRow 33 = .ok (.isub, 1) := by decide +kernel
theorem d_K_zoneRow_34 : decode b_K_zoneRow 34 = .ok (.istore_n 2, 1) := by decide +kernel
theorem d_K_zoneRow_35 : decode b_K_zoneRow 35 = .ok (.iinc 3 1, 3) := by decide +kernel
theorem d_K_zoneRow_38 : decode b_K_zoneRow 38 = .ok (.goto (-34), 3) := by decide +kernel
theorem d_K_zoneRow_41 : decode b_K_zoneRow 41 = .ok (.iconst (-1), 1) := by decide +kernel
theorem d_K_zoneRow_42 : decode b_K_zoneRow 42 = .ok (.ireturn, 1) := by decide +kernel
theorem d_K_zoneRowsOf_0 : decode b_K_zoneRowsOf 0 = .ok (.aload_n 0, 1) := by decide +kernel
theorem d_K_zoneRowsOf_1 : decode b_K_zoneRowsOf 1 = .ok (.getfield 29, 3) := by decide +kernel
theorem d_K_zoneRowsOf_4 : decode b_K_zoneRowsOf 4 = .ok (.iload_n 1, 1) := by decide +kernel
theorem d_K_zoneRowsOf_5 : decode b_K_zoneRowsOf 5 = .ok (.aaload, 1) := by decide +kernel
theorem d_K_zoneRowsOf_6 : decode b_K_zoneRowsOf 6 = .ok (.invokevirtual 355, 3) := by decide +kernel
theorem d_K_zoneRowsOf_9 : decode b_K_zoneRowsOf 9 = .ok (.ifCond .ne 5, 3) := by decide +kernel
theorem d_K_zoneRowsOf_12 : decode b_K_zoneRowsOf 12 = .ok (.iconst 0, 1) := by decide +kernel
theorem d_K_zoneRowsOf_13 : decode b_K_zoneRowsOf 13 = .ok (.ireturn, 1) := by decide +kernel
theorem d_K_zoneRowsOf_14 : decode b_K_zoneRowsOf 14 = .ok (.aload_n 0, 1) := by decide +kernel
theorem d_K_zoneRowsOf_15 : decode b_K_zoneRowsOf 15 = .ok (.getfield 29, 3) := by decide +kernel
theorem d_K_zoneRowsOf_18 : decode b_K_zoneRowsOf 18 = .ok (.iload_n 1, 1) := by decide +kernel
theorem d_K_zoneRowsOf_19 : decode b_K_zoneRowsOf 19 = .ok (.aaload, 1) := by decide +kernel
theorem d_K_zoneRowsOf_20 : decode b_K_zoneRowsOf 20 = .ok (.getfield 130, 3) := by decide +kernel
theorem d_K_zoneRowsOf_23 : decode b_K_zoneRowsOf 23 = .ok (.iconst 1, 1) := by decide +kernel
theorem d_K_zoneRowsOf_24 : decode b_K_zoneRowsOf 24 = .ok (.aaload, 1) := by decide +kernel
theorem d_K_zoneRowsOf_25 : decode b_K_zoneRowsOf 25 = .ok (.getfield 150, 3) := by decide +kernel
theorem d_K_zoneRowsOf_28 : decode b_K_zoneRowsOf 28 = .ok (.istore_n 2, 1) := by decide +kernel
theorem d_K_zoneRowsOf_29 : decode b_K_zoneRowsOf 29 = .ok (.iconst 0, 1) := by decide +kernel
theorem d_K_zoneRowsOf_30 : decode b_K_zoneRowsOf 30 = .ok (.istore_n 3, 1) := by decide +kernel
theorem d_K_zoneRowsOf_31 : decode b_K_zoneRowsOf 31 = .ok (.iload_n 3, 1) := by decide +kernel
theorem d_K_zoneRowsOf_32 : decode b_K_zoneRowsOf 32 = .ok (.bipush 8, 2) := by decide +kernel
theorem d_K_zoneRowsOf_34 : decode b_K_zoneRowsOf 34 = .ok (.if_icmp .ge 21, 3) := by decide +kernel
theorem d_K_zoneRowsOf_37 : decode b_K_zoneRowsOf 37 = .ok (.aload_n 0, 1) := by decide +kernel
theorem d_K_zoneRowsOf_38 : decode b_K_zoneRowsOf 38 = .ok (.iload_n 1, 1) := by decide +kernel
theorem d_K_zoneRowsOf_39 : decode b_K_zoneRowsOf 39 = .ok (.iload_n 3, 1) := by decide +kernel
theorem d_K_zoneRowsOf_40 : decode b_K_zoneRowsOf 40 = .ok (.invokevirtual 359, 3) := by decide +kernel
theorem d_K_zoneRowsOf_43 : decode b_K_zoneRowsOf 43 = .ok (.ifCond .eq 6, 3) := by decide +kernel
theorem d_K_zoneRowsOf_46 : decode b_K_zoneRowsOf 46 = .ok (.iinc 2 1, 3) := by decide +kernel
theorem d_K_zoneRowsOf_49 : decode b_K_zoneRowsOf 49 = .ok (.iinc 3 1, 3) := by decide +kernel
theorem d_K_zoneRowsOf_52 : decode b_K_zoneRowsOf 52 = .ok (.goto (-21), 3) := by decide +kernel
theorem d_K_zoneRowsOf_55 : decode b_K_zoneRowsOf 55 = .ok (.iload_n 2, 1) := by decide +kernel
theorem d_K_zoneRowsOf_56 : decode b_K_zoneRowsOf 56 = .ok (.ireturn, 1) := by decide +kernel
theorem d_K_zoneRowOf_0 : decode b_K_zoneRowOf 0 = .ok (.aload_n 0, 1) := by decide +kernel
theorem d_K_zoneRowOf_1 : decode b_K_zoneRowOf 1 = .ok (.getfield 29, 3) := by decide +kernel
theorem d_K_zoneRowOf_4 : decode b_K_zoneRowOf 4 = .ok (.iload_n 1, 1) := by decide +kernel
theorem d_K_zoneRowOf_5 : decode b_K_zoneRowOf 5 = .ok (.aaload, 1) := by decide +kernel
theorem d_K_zoneRowOf_6 : decode b_K_zoneRowOf 6 = .ok (.getfield 130, 3) := by decide +kernel
theorem d_K_zoneRowOf_9 : decode b_K_zoneRowOf 9 = .ok (.iconst 1, 1) := by decide +kernel
theorem d_K_zoneRowOf_10 : decode b_K_zoneRowOf 10 = .ok (.aaload, 1) := by decide +kernel
theorem d_K_zoneRowOf_11 : decode b_K_zoneRowOf 11 = .ok (.astore_n 3, 1) := by decide +kernel
theorem d_K_zoneRowOf_12 : decode b_K_zoneRowOf 12 = .ok (.iload_n 2, 1) := by decide +kernel
theorem d_K_zoneRowOf_13 : decode b_K_zoneRowOf 13 = .ok (.aload_n 3, 1) := by decide +kernel
theorem d_K_zoneRowOf_14 : decode b_K_zoneRowOf 14 = .ok (.getfield 150, 3) := by decide +kernel
theorem d_K_zoneRowOf_17 : decode b_K_zoneRowOf 17 = .ok (.if_icmp .ge 15, 3) := by decide +kernel
theorem d_K_zoneRowOf_20 : decode b_K_zoneRowOf 20 = .ok (.sipush 1000, 3) := by decide +kernel
theorem d_K_zoneRowOf_23 : decode b_K_zoneRowOf 23 = .ok (.iload_n 1, 1) := by decide +kernel
theorem d_K_zoneRowOf_24 : decode b_K_zoneRowOf 24 = .ok (.imul, 1) := by decide +kernel
theorem d_K_zoneRowOf_25 : decode b_K_zoneRowOf 25 = .ok (.aload_n 3, 1) := by decide +kernel
theorem d_K_zoneRowOf_26 : decode b_K_zoneRowOf 26 = .ok (.iload_n 2, 1) := by decide +kernel
theorem d_K_zoneRowOf_27 : decode b_K_zoneRowOf 27 = .ok (.invokevirtual 249, 3) := by decide +kernel
theorem d_K_zoneRowOf_30 : decode b_K_zoneRowOf 30 = .ok (.iadd, 1) := by decide +kernel
theorem d_K_zoneRowOf_31 : decode b_K_zoneRowOf 31 = .ok (.ireturn, 1) := by decide +kernel
theorem d_K_zoneRowOf_32 : decode b_K_zoneRowOf 32 = .ok (.iload_n 2, 1) := by decide +kernel
theorem d_K_zoneRowOf_33 : decode b_K_zoneRowOf 33 = .ok (.aload_n 3, 1) := by decide +kernel
theorem d_K_zoneRowOf_34 : decode b_K_zoneRowOf 34 = .ok (.getfield 150, 3) := by decide +kernel
theorem d_K_zoneRowOf_37 : decode b_K_zoneRowOf 37 = .ok (.isub, 1) := by decide +kernel
theorem d_K_zoneRowOf_38 : decode b_K_zoneRowOf 38 = .ok (.istore 4, 2) := by decide +kernel
theorem d_K_zoneRowOf_40 : decode b_K_zoneRowOf 40 = .ok (.iconst 0, 1) := by decide +kernel
theorem d_K_zoneRowOf_41 : decode b_K_zoneRowOf 41 = .ok (.istore 5, 2) := by decide +kernel
theorem d_K_zoneRowOf_43 : decode b_K_zoneRowOf 43 = .ok (.iload 5, 2) := by decide +kernel
theorem d_K_zoneRowOf_45 : decode b_K_zoneRowOf 45 = .ok (.bipush 8, 2) := by decide +kernel
theorem d_K_zoneRowOf_47 : decode b_K_zoneRowOf 47 = .ok (.if_icmp .ge 39, 3) := by decide +kernel
theorem d_K_zoneRowOf_50 : decode b_K_zoneRowOf 50 = .ok (.aload_n 0, 1) := by decide +kernel
theorem d_K_zoneRowOf_51 : decode b_K_zoneRowOf 51 = .ok (.iload_n 1, 1) := by decide +kernel
theorem d_K_zoneRowOf_52 : decode b_K_zoneRowOf 52 = .ok (.iload 5, 2) := by decide +kernel
theorem d_K_zoneRowOf_54 : decode b_K_zoneRowOf 54 = .ok (.invokevirtual 359, 3) := by decide +kernel
theorem d_K_zoneRowOf_57 : decode b_K_zoneRowOf 57 = .ok (.ifCond .eq 23, 3) := by decide +kernel
theorem d_K_zoneRowOf_60 : decode b_K_zoneRowOf 60 = .ok (.iload 4, 2) := by decide +kernel
theorem d_K_zoneRowOf_62 : decode b_K_zoneRowOf 62 = .ok (.ifCond .ne 15, 3) := by decide +kernel
theorem d_K_zoneRowOf_65 : decode b_K_zoneRowOf 65 = .ok (.sipush 1000, 3) := by decide +kernel
theorem d_K_zoneRowOf_68 : decode b_K_zoneRowOf 68 = .ok (.iload_n 1, 1) := by decide +kernel
theorem d_K_zoneRowOf_69 : decode b_K_zoneRowOf 69 = .ok (.imul, 1) := by decide +kernel
theorem d_K_zoneRowOf_70 : decode b_K_zoneRowOf 70 = .ok (.bipush 100, 2) := by decide +kernel
theorem d_K_zoneRowOf_72 : decode b_K_zoneRowOf 72 = .ok (.iadd, 1) := by decide +kernel
theorem d_K_zoneRowOf_73 : decode b_K_zoneRowOf 73 = .ok (.iload 5, 2) := by decide +kernel
theorem d_K_zoneRowOf_75 : decode b_K_zoneRowOf 75 = .ok (.iadd, 1) := by decide +kernel
theorem d_K_zoneRowOf_76 : decode b_K_zoneRowOf 76 = .ok (.ireturn, 1) := by decide +kernel
theorem d_K_zoneRowOf_77 : decode b_K_zoneRowOf 77 = .ok (.iinc 4 (-1), 3) := by decide +kernel
theorem d_K_zoneRowOf_80 : decode b_K_zoneRowOf 80 = .ok (.iinc 5 1, 3) := by decide +kernel
theorem d_K_zoneRowOf_83 : decode b_K_zoneRowOf 83 = .ok (.goto (-40), 3) := by decide +kernel
theorem d_K_zoneRowOf_86 : decode b_K_zoneRowOf 86 = .ok (.iconst (-1), 1) := by decide +kernel
theorem d_K_zoneRowOf_87 : decode b_K_zoneRowOf 87 = .ok (.ireturn, 1) := by decide +kernel
theorem d_K_showsAddress_0 : decode b_K_showsAddress 0 = .ok (.aload_n 0, 1) := by decide +kernel
theorem d_K_showsAddress_1 : decode b_K_showsAddress 1 = .ok (.getfield 22, 3) := by decide +kernel
theorem d_K_showsAddress_4 : decode b_K_showsAddress 4 = .ok (.iconst 1, 1) := by decide +kernel
theorem d_K_showsAddress_5 : decode b_K_showsAddress 5 = .ok (.aaload, 1) := by decide +kernel
theorem d_K_showsAddress_6 : decode b_K_showsAddress 6 = .ok (.iload_n 2, 1) := by decide +kernel
theorem d_K_showsAddress_7 : decode b_K_showsAddress 7 = .ok (.iload_n 1, 1) := by decide +kernel
theorem d_K_showsAddress_8 : decode b_K_showsAddress 8 = .ok (.invokevirtual 340, 3) := by decide +kernel
theorem d_K_showsAddress_11 : decode b_K_showsAddress 11 = .ok (.ifCond .eq 16, 3) := by decide +kernel
theorem d_K_showsAddress_14 : decode b_K_showsAddress 14 = .ok (.aload_n 0, 1) := by decide +kernel
theorem d_K_showsAddress_15 : decode b_K_showsAddress 15 = .ok (.iconst 1, 1) := by decide +kernel
theorem d_K_showsAddress_16 : decode b_K_showsAddress 16 = .ok (.iload_n 2, 1) := by decide +kernel
theorem d_K_showsAddress_17 : decode b_K_showsAddress 17 = .ok (.invokevirtual 83, 3) := by decide +kernel
theorem d_K_showsAddress_20 : decode b_K_showsAddress 20 = .ok (.ifCond .le 7, 3) := by decide +kernel
theorem d_K_showsAddress_23 : decode b_K_showsAddress 23 = .ok (.iconst 1, 1) := by decide +kernel
theorem d_K_showsAddress_24 : decode b_K_showsAddress 24 = .ok (.goto 4, 3) := by decide +kernel
theorem d_K_showsAddress_27 : decode b_K_showsAddress 27 = .ok (.iconst 0, 1) := by decide +kernel
theorem d_K_showsAddress_28 : decode b_K_showsAddress 28 = .ok (.ireturn, 1) := by decide +kernel
theorem d_S_init_0 : decode b_S_init 0 = .ok (.aload_n 0, 1) := by decide +kernel
theorem d_S_init_1 : decode b_S_init 1 = .ok (.invokespecial 3, 3) := by decide +kernel
theorem d_S_init_4 : decode b_S_init 4 = .ok (.aload_n 0, 1) := by decide +kernel
theorem d_S_init_5 : decode b_S_init 5 = .ok (.bipush 8, 2) := by decide +kernel
theorem d_S_init_7 : decode b_S_init 7 = .ok (.anewarray 9, 3) := by decide +kernel
theorem d_S_init_10 : decode b_S_init 10 = .ok (.putfield 11, 3) := by decide +kernel
theorem d_S_init_13 : decode b_S_init 13 = .ok (.iconst 0, 1) := by decide +kernel
theorem d_S_init_14 : decode b_S_init 14 = .ok (.istore_n 1, 1) := by decide +kernel
theorem d_S_init_15 : decode b_S_init 15 = .ok (.iload_n 1, 1) := by decide +kernel
theorem d_S_init_16 : decode b_S_init 16 = .ok (.bipush 8, 2) := by decide +kernel
theorem d_S_init_18 : decode b_S_init 18 = .ok (.if_icmp .ge 22, 3) := by decide +kernel
theorem d_S_init_21 : decode b_S_init 21 = .ok (.aload_n 0, 1) := by decide +kernel
theorem d_S_init_22 : decode b_S_init 22 = .ok (.getfield 11, 3) := by decide +kernel
theorem d_S_init_25 : decode b_S_init 25 = .ok (.iload_n 1, 1) := by decide +kernel
theorem d_S_init_26 : decode b_S_init 26 = .ok (.new 9, 3) := by decide +kernel
theorem d_S_init_29 : decode b_S_init 29 = .ok (.dup, 1) := by decide +kernel
theorem d_S_init_30 : decode b_S_init 30 = .ok (.invokespecial 17, 3) := by decide +kernel
theorem d_S_init_33 : decode b_S_init 33 = .ok (.aastore, 1) := by decide +kernel
theorem d_S_init_34 : decode b_S_init 34 = .ok (.iinc 1 1, 3) := by decide +kernel
theorem d_S_init_37 : decode b_S_init 37 = .ok (.goto (-22), 3) := by decide +kernel
theorem d_S_init_40 : decode b_S_init 40 = .ok (.aload_n 0, 1) := by decide +kernel
theorem d_S_init_41 : decode b_S_init 41 = .ok (.iconst 0, 1) := by decide +kernel
theorem d_S_init_42 : decode b_S_init 42 = .ok (.putfield 18, 3) := by decide +kernel
theorem d_S_init_45 : decode b_S_init 45 = .ok (.return_, 1) := by decide +kernel
theorem d_S_make_0 : decode b_S_make 0 = .ok (.aload_n 0, 1) := by decide +kernel
theorem d_S_make_1 : decode b_S_make 1 = .ok (.getfield 11, 3) := by decide +kernel
theorem d_S_make_4 : decode b_S_make 4 = .ok (.aload_n 0, 1) := by decide +kernel
theorem d_S_make_5 : decode b_S_make 5 = .ok (.getfield 18, 3) := by decide +kernel
theorem d_S_make_8 : decode b_S_make 8 = .ok (.aaload, 1) := by decide +kernel
theorem d_S_make_9 : decode b_S_make 9 = .ok (.astore 4, 2) := by decide +kernel
theorem d_S_make_11 : decode b_S_make 11 = .ok (.aload 4, 2) := by decide +kernel
theorem d_S_make_13 : decode b_S_make 13 = .ok (.iconst 1, 1) := by decide +kernel
theorem d_S_make_14 : decode b_S_make 14 = .ok (.putfield 22, 3) := by decide +kernel
theorem d_S_make_17 : decode b_S_make 17 = .ok (.aload 4, 2) := by decide +kernel
theorem d_S_make_19 : decode b_S_make 19 = .ok (.iload_n 1, 1) := by decide +kernel
theorem d_S_make_20 : decode b_S_make 20 = .ok (.putfield 26, 3) := by decide +kernel
theorem d_S_make_23 : decode b_S_make 23 = .ok (.aload 4, 2) := by decide +kernel
theorem d_S_make_25 : decode b_S_make 25 = .ok (.iload_n 2, 1) := by decide +kernel
theorem d_S_make_26 : decode b_S_make 26 = .ok (.putfield 29, 3) := by decide +kernel
theorem d_S_make_29 : decode b_S_make 29 = .ok (.aload 4, 2) := by decide +kernel
theorem d_S_make_31 : decode b_S_make 31 = .ok (.iload_n 3, 1) := by decide +kernel
theorem d_S_make_32 : decode b_S_make 32 = .ok (.putfield 32, 3) := by decide +kernel
theorem d_S_make_35 : decode b_S_make 35 = .ok (.aload_n 0, 1) := by decide +kernel
theorem d_S_make_36 : decode b_S_make 36 = .ok (.dup, 1) := by decide +kernel
theorem d_S_make_37 : decode b_S_make 37 = .ok (.getfield 18, 3) := by decide +kernel
theorem d_S_make_40 : decode b_S_make 40 = .ok (.iconst 1, 1) := by decide +kernel
theorem d_S_make_41 : decode b_S_make 41 = .ok (.iadd, 1) := by decide +kernel
theorem d_S_make_42 : decode b_S_make 42 = .ok (.putfield 18, 3) := by decide +kernel
theorem d_S_make_45 : decode b_S_make 45 = .ok (.aload_n 0, 1) := by decide +kernel
theorem d_S_make_46 : decode b_S_make 46 = .ok (.getfield 18, 3) := by decide +kernel
theorem d_S_make_49 : decode b_S_make 49 = .ok (.iconst 1, 1) := by decide +kernel
theorem d_S_make_50 : decode b_S_make 50 = .ok (.isub, 1) := by decide +kernel
theorem d_S_make_51 : decode b_S_make 51 = .ok (.ireturn, 1) := by decide +kernel
theorem d_S_has_0 : decode b_S_has 0 = .ok (.iload_n 1, 1) := by decide +kernel
theorem d_S_has_1 : decode b_S_has 1 = .ok (.ifCond .lt 27, 3) := by decide +kernel
theorem d_S_has_4 : decode b_S_has 4 = .ok (.iload_n 1, 1) := by decide +kernel
theorem d_S_has_5 : decode b_S_has 5 = .ok (.aload_n 0, 1) := by decide +kernel
theorem d_S_has_6 : decode b_S_has 6 = .ok (.getfield 18, 3) := by decide +kernel
theorem d_S_has_9 : decode b_S_has 9 = .ok (.if_icmp .ge 19, 3) := by decide +kernel
theorem d_S_has_12 : decode b_S_has 12 = .ok (.aload_n 0, 1) := by decide +kernel
theorem d_S_has_13 : decode b_S_has 13 = .ok (.getfield 11, 3) := by decide +kernel
theorem d_S_has_16 : decode b_S_has 16 = .ok (.iload_n 1, 1) := by decide +kernel
theorem d_S_has_17 : decode b_S_has 17 = .ok (.aaload, 1) := by decide +kernel
theorem d_S_has_18 : decode b_S_has 18 = .ok (.getfield 22, 3) := by decide +kernel
theorem d_S_has_21 : decode b_S_has 21 = .ok (.ifCond .eq 7, 3) := by decide +kernel
theorem d_S_has_24 : decode b_S_has 24 = .ok (.iconst 1, 1) := by decide +kernel
theorem d_S_has_25 : decode b_S_has 25 = .ok (.goto 4, 3) := by decide +kernel
theorem d_S_has_28 : decode b_S_has 28 = .ok (.iconst 0, 1) := by decide +kernel
theorem d_S_has_29 : decode b_S_has 29 = .ok (.ireturn, 1) := by decide +kernel
theorem d_S_liesUnder_0 : decode b_S_liesUnder 0 = .ok (.aload_n 0, 1) := by decide +kernel
theorem d_S_liesUnder_1 : decode b_S_liesUnder 1 = .ok (.iload_n 1, 1) := by decide +kernel
theorem d_S_liesUnder_2 : decode b_S_liesUnder 2 = .ok (.invokevirtual 35, 3) := by decide +kernel
theorem d_S_liesUnder_5 : decode b_S_liesUnder 5 = .ok (.ifCond .eq 20, 3) := by decide +kernel
theorem d_S_liesUnder_8 : decode b_S_liesUnder 8 = .ok (.aload_n 0, 1) := by decide +kernel
theorem d_S_liesUnder_9 : decode b_S_liesUnder 9 = .ok (.getfield 11, 3) := by decide +kernel
theorem d_S_liesUnder_12 : decode b_S_liesUnder 12 = .ok (.iload_n 1, 1) := by decide +kernel
theorem d_S_liesUnder_13 : decode b_S_liesUnder 13 = .ok (.aaload, 1) := by decide +kernel
theorem d_S_liesUnder_14 : decode b_S_liesUnder 14 = .ok (.getfield 29, 3) := by decide +kernel
theorem d_S_liesUnder_17 : decode b_S_liesUnder 17 = .ok (.iload_n 2, 1) := by decide +kernel
theorem d_S_liesUnder_18 : decode b_S_liesUnder 18 = .ok (.if_icmp .ne 7, 3) := by decide +kernel
theorem d_S_liesUnder_21 : decode b_S_liesUnder 21 = .ok (.iconst 1, 1) := by decide +kernel
theorem d_S_liesUnder_22 : decode b_S_liesUnder 22 = .ok (.goto 4, 3) := by decide +kernel
theorem d_S_liesUnder_25 : decode b_S_liesUnder 25 = .ok (.iconst 0, 1) := by decide +kernel
theorem d_S_liesUnder_26 : decode b_S_liesUnder 26 = .ok (.ireturn, 1) := by decide +kernel
theorem d_S_howManyThere_0 : decode b_S_howManyThere 0 = .ok (.iconst 0, 1) := by decide +kernel
theorem d_S_howManyThere_1 : decode b_S_howManyThere 1 = .ok (.istore_n 1, 1) := by decide +kernel
theorem d_S_howManyThere_2 : decode b_S_howManyThere 2 = .ok (.iconst 0, 1) := by decide +kernel
theorem d_S_howManyThere_3 : decode b_S_howManyThere 3 = .ok (.istore_n 2, 1) := by decide +kernel
theorem d_S_howManyThere_4 : decode b_S_howManyThere 4 = .ok (.iload_n 2, 1) := by decide +kernel
theorem d_S_howManyThere_5 : decode b_S_howManyThere 5 = .ok (.aload_n 0, 1) := by decide +kernel
theorem d_S_howManyThere_6 : decode b_S_howManyThere 6 = .ok (.getfield 18, 3) := by decide +kernel
theorem d_S_howManyThere_9 : decode b_S_howManyThere 9 = .ok (.if_icmp .ge 24, 3) := by decide +kernel
theorem d_S_howManyThere_12 : decode b_S_howManyThere 12 = .ok (.aload_n 0, 1) := by decide +kernel
theorem d_S_howManyThere_13 : decode b_S_howManyThere 13 = .ok (.getfield 11, 3) := by decide +kernel
theorem d_S_howManyThere_16 : decode b_S_howManyThere 16 = .ok (.iload_n 2, 1) := by decide +kernel
theorem d_S_howManyThere_17 : decode b_S_howManyThere 17 = .ok (.aaload, 1) := by decide +kernel
theorem d_S_howManyThere_18 : decode b_S_howManyThere 18 = .ok (.getfield 22, 3) := by decide +kernel
theorem d_S_howManyThere_21 : decode b_S_howManyThere 21 = .ok (.ifCond .eq 6, 3) := by decide +kernel
theorem d_S_howManyThere_24 : decode b_S_howManyThere 24 = .ok (.iinc 1 1, 3) := by decide +kernel
theorem d_S_howManyThere_27 : decode b_S_howManyThere 27 = .ok (.iinc 2 1, 3) := by decide +kernel
theorem d_S_howManyThere_30 : decode b_S_howManyThere 30 = .ok (.goto (-26), 3) := by decide +kernel
theorem d_S_howManyThere_33 : decode b_S_howManyThere 33 = .ok (.iload_n 1, 1) := by decide +kernel
theorem d_S_howManyThere_34 : decode b_S_howManyThere 34 = .ok (.ireturn, 1) := by decide +kernel
