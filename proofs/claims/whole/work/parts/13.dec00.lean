theorem d_A_init_0 : decode b_A_init 0 = .ok (.aload_n 0, 1) := by decide +kernel
theorem d_A_init_1 : decode b_A_init 1 = .ok (.invokespecial 3, 3) := by decide +kernel
theorem d_A_init_4 : decode b_A_init 4 = .ok (.aload_n 0, 1) := by decide +kernel
theorem d_A_init_5 : decode b_A_init 5 = .ok (.iconst 4, 1) := by decide +kernel
theorem d_A_init_6 : decode b_A_init 6 = .ok (.newarray .double, 2) := by decide +kernel
theorem d_A_init_8 : decode b_A_init 8 = .ok (.putfield 9, 3) := by decide +kernel
theorem d_A_init_11 : decode b_A_init 11 = .ok (.aload_n 0, 1) := by decide +kernel
theorem d_A_init_12 : decode b_A_init 12 = .ok (.bipush 12, 2) := by decide +kernel
theorem d_A_init_14 : decode b_A_init 14 = .ok (.newarray .int, 2) := by decide +kernel
theorem d_A_init_16 : decode b_A_init 16 = .ok (.putfield 15, 3) := by decide +kernel
theorem d_A_init_19 : decode b_A_init 19 = .ok (.aload_n 0, 1) := by decide +kernel
theorem d_A_init_20 : decode b_A_init 20 = .ok (.dconst 0, 1) := by decide +kernel
theorem d_A_init_21 : decode b_A_init 21 = .ok (.putfield 19, 3) := by decide +kernel
theorem d_A_init_24 : decode b_A_init 24 = .ok (.aload_n 0, 1) := by decide +kernel
theorem d_A_init_25 : decode b_A_init 25 = .ok (.iconst 0, 1) := by decide +kernel
theorem d_A_init_26 : decode b_A_init 26 = .ok (.putfield 23, 3) := by decide +kernel
theorem d_A_init_29 : decode b_A_init 29 = .ok (.return_, 1) := by decide +kernel
theorem d_A_spend_0 : decode b_A_spend 0 = .ok (.aload_n 0, 1) := by decide +kernel
theorem d_A_spend_1 : decode b_A_spend 1 = .ok (.dup, 1) := by decide +kernel
theorem d_A_spend_2 : decode b_A_spend 2 = .ok (.getfield 19, 3) := by decide +kernel
theorem d_A_spend_5 : decode b_A_spend 5 = .ok (.dload_n 2, 1) := by decide +kernel
theorem d_A_spend_6 : decode b_A_spend 6 = .ok (.dsub, 1) := by decide +kernel
theorem d_A_spend_7 : decode b_A_spend 7 = .ok (.putfield 19, 3) := by decide +kernel
theorem d_A_spend_10 : decode b_A_spend 10 = .ok (.aload_n 0, 1) := by decide +kernel
theorem d_A_spend_11 : decode b_A_spend 11 = .ok (.getfield 9, 3) := by decide +kernel
theorem d_A_spend_14 : decode b_A_spend 14 = .ok (.iload_n 1, 1) := by decide +kernel
theorem d_A_spend_15 : decode b_A_spend 15 = .ok (.dup2, 1) := by decide +kernel
theorem d_A_spend_16 : decode b_A_spend 16 = .ok (.daload, 1) := by decide +kernel
theorem d_A_spend_17 : decode b_A_spend 17 = .ok (.dload_n 2, 1) := by decide +kernel
theorem d_A_spend_18 : decode b_A_spend 18 = .ok (.dadd, 1) := by decide +kernel
theorem d_A_spend_19 : decode b_A_spend 19 = .ok (.dastore, 1) := by decide +kernel
theorem d_A_spend_20 : decode b_A_spend 20 = .ok (.return_, 1) := by decide +kernel
theorem d_A_tell_0 : decode b_A_tell 0 = .ok (.aload_n 0, 1) := by decide +kernel
theorem d_A_tell_1 : decode b_A_tell 1 = .ok (.getfield 23, 3) := by decide +kernel
theorem d_A_tell_4 : decode b_A_tell 4 = .ok (.bipush 12, 2) := by decide +kernel
theorem d_A_tell_6 : decode b_A_tell 6 = .ok (.if_icmp .lt 7, 3) := by decide +kernel
theorem d_A_tell_9 : decode b_A_tell 9 = .ok (.aload_n 0, 1) := by decide +kernel
theorem d_A_tell_10 : decode b_A_tell 10 = .ok (.invokevirtual 27, 3) := by decide +kernel
theorem d_A_tell_13 : decode b_A_tell 13 = .ok (.aload_n 0, 1) := by decide +kernel
theorem d_A_tell_14 : decode b_A_tell 14 = .ok (.getfield 15, 3) := by decide +kernel
theorem d_A_tell_17 : decode b_A_tell 17 = .ok (.aload_n 0, 1) := by decide +kernel
theorem d_A_tell_18 : decode b_A_tell 18 = .ok (.getfield 23, 3) := by decide +kernel
theorem d_A_tell_21 : decode b_A_tell 21 = .ok (.bipush 10, 2) := by decide +kernel
theorem d_A_tell_23 : decode b_A_tell 23 = .ok (.iload_n 1, 1) := by decide +kernel
theorem d_A_tell_24 : decode b_A_tell 24 = .ok (.imul, 1) := by decide +kernel
theorem d_A_tell_25 : decode b_A_tell 25 = .ok (.iload_n 2, 1) := by decide +kernel
theorem d_A_tell_26 : decode b_A_tell 26 = .ok (.iadd, 1) := by decide +kernel
theorem d_A_tell_27 : decode b_A_tell 27 = .ok (.iastore, 1) := by decide +kernel
theorem d_A_tell_28 : decode b_A_tell 28 = .ok (.aload_n 0, 1) := by decide +kernel
theorem d_A_tell_29 : decode b_A_tell 29 = .ok (.dup, 1) := by decide +kernel
theorem d_A_tell_30 : decode b_A_tell 30 = .ok (.getfield 23, 3) := by decide +kernel
theorem d_A_tell_33 : decode b_A_tell 33 = .ok (.iconst 1, 1) := by decide +kernel
theorem d_A_tell_34 : decode b_A_tell 34 = .ok (.iadd, 1) := by decide +kernel
theorem d_A_tell_35 : decode b_A_tell 35 = .ok (.putfield 23, 3) := by decide +kernel
theorem d_A_tell_38 : decode b_A_tell 38 = .ok (.return_, 1) := by decide +kernel
theorem d_A_dropOldest_0 : decode b_A_dropOldest 0 = .ok (.aload_n 0, 1) := by decide +kernel
theorem d_A_dropOldest_1 : decode b_A_dropOldest 1 = .ok (.getfield 23, 3) := by decide +kernel
theorem d_A_dropOldest_4 : decode b_A_dropOldest 4 = .ok (.ifCond .le 43, 3) := by decide +kernel
theorem d_A_dropOldest_7 : decode b_A_dropOldest 7 = .ok (.aload_n 0, 1) := by decide +kernel
theorem d_A_dropOldest_8 : decode b_A_dropOldest 8 = .ok (.dup, 1) := by decide +kernel
theorem d_A_dropOldest_9 : decode b_A_dropOldest 9 = .ok (.getfield 23, 3) := by decide +kernel
theorem d_A_dropOldest_12 : decode b_A_dropOldest 12 = .ok (.iconst 1, 1) := by decide +kernel
theorem d_A_dropOldest_13 : decode b_A_dropOldest 13 = .ok (.isub, 1) := by decide +kernel
theorem d_A_dropOldest_14 : decode b_A_dropOldest 14 = .ok (.putfield 23, 3) := by decide +kernel
theorem d_A_dropOldest_17 : decode b_A_dropOldest 17 = .ok (.iconst 0, 1) := by decide +kernel
theorem d_A_dropOldest_18 : decode b_A_dropOldest 18 = .ok (.istore_n 1, 1) := by decide +kernel
theorem d_A_dropOldest_19 : decode b_A_dropOldest 19 = .ok (.iload_n 1, 1) := by decide +kernel
theorem d_A_dropOldest_20 : decode b_A_dropOldest 20 = .ok (.aload_n 0, 1) := by decide +kernel
theorem d_A_dropOldest_21 : decode b_A_dropOldest 21 = .ok (.getfield 23, 3) := by decide +kernel
theorem d_A_dropOldest_24 : decode b_A_dropOldest 24 = .ok (.if_icmp .ge 23, 3) := by decide +kernel
theorem d_A_dropOldest_27 : decode b_A_dropOldest 27 = .ok (.aload_n 0, 1) := by decide +kernel
theorem d_A_dropOldest_28 : decode b_A_dropOldest 28 = .ok (.getfield 15, 3) := by decide +kernel
theorem d_A_dropOldest_31 : decode b_A_dropOldest 31 = .ok (.iload_n 1, 1) := by decide +kernel
theorem d_A_dropOldest_32 : decode b_A_dropOldest 32 = .ok (.aload_n 0, 1) := by decide +kernel
theorem d_A_dropOldest_33 : decode b_A_dropOldest 33 = .ok (.getfield 15, 3) := by decide +kernel
theorem d_A_dropOldest_36 : decode b_A_dropOldest 36 = .ok (.iload_n 1, 1) := by decide +kernel
theorem d_A_dropOldest_37 : decode b_A_dropOldest 37 = .ok (.iconst 1, 1) := by decide +kernel
theorem d_A_dropOldest_38 : decode b_A_dropOldest 38 = .ok (.iadd, 1) := by decide +kernel
theorem d_A_dropOldest_39 : decode b_A_dropOldest 39 = .ok (.iaload, 1) := by decide +kernel
theorem d_A_dropOldest_40 : decode b_A_dropOldest 40 = .ok (.iastore, 1) := by decide +kernel
theorem d_A_dropOldest_41 : decode b_A_dropOldest 41 = .ok (.iinc 1 1, 3) := by decide +kernel
theorem d_A_dropOldest_44 : decode b_A_dropOldest 44 = .ok (.goto (-25), 3) := by decide +kernel
theorem d_A_dropOldest_47 : decode b_A_dropOldest 47 = .ok (.return_, 1) := by decide +kernel
theorem d_D_init_0 : decode b_D_init 0 = .ok (.aload_n 0, 1) := by decide +kernel
theorem d_D_init_1 : decode b_D_init 1 = .ok (.invokespecial 3, 3) := by decide +kernel
theorem d_D_init_4 : decode b_D_init 4 = .ok (.aload_n 0, 1) := by decide +kernel
theorem d_D_init_5 : decode b_D_init 5 = .ok (.iconst 2, 1) := by decide +kernel
theorem d_D_init_6 : decode b_D_init 6 = .ok (.anewarray 9, 3) := by decide +kernel
theorem d_D_init_9 : decode b_D_init 9 = .ok (.putfield 11, 3) := by decide +kernel
theorem d_D_init_12 : decode b_D_init 12 = .ok (.aload_n 0, 1) := by decide +kernel
theorem d_D_init_13 : decode b_D_init 13 = .ok (.getfield 11, 3) := by decide +kernel
theorem d_D_init_16 : decode b_D_init 16 = .ok (.iconst 0, 1) := by decide +kernel
theorem d_D_init_17 : decode b_D_init 17 = .ok (.new 9, 3) := by decide +kernel
theorem d_D_init_20 : decode b_D_init 20 = .ok (.dup, 1) := by decide +kernel
theorem d_D_init_21 : decode b_D_init 21 = .ok (.invokespecial 17, 3) := by decide +kernel
theorem d_D_init_24 : decode b_D_init 24 = .ok (.aastore, 1) := by decide +kernel
theorem d_D_init_25 : decode b_D_init 25 = .ok (.aload_n 0, 1) := by decide +kernel
theorem d_D_init_26 : decode b_D_init 26 = .ok (.getfield 11, 3) := by decide +kernel
theorem d_D_init_29 : decode b_D_init 29 = .ok (.iconst 1, 1) := by decide +kernel
theorem d_D_init_30 : decode b_D_init 30 = .ok (.new 9, 3) := by decide +kernel
theorem d_D_init_33 : decode b_D_init 33 = .ok (.dup, 1) := by decide +kernel
theorem d_D_init_34 : decode b_D_init 34 = .ok (.invokespecial 17, 3) := by decide +kernel
theorem d_D_init_37 : decode b_D_init 37 = .ok (.aastore, 1) := by decide +kernel
theorem d_D_init_38 : decode b_D_init 38 = .ok (.aload_n 0, 1) := by decide +kernel
theorem d_D_init_39 : decode b_D_init 39 = .ok (.iconst 5, 1) := by decide +kernel
theorem d_D_init_40 : decode b_D_init 40 = .ok (.newarray .double, 2) := by decide +kernel
theorem d_D_init_42 : decode b_D_init 42 = .ok (.putfield 18, 3) := by decide +kernel
theorem d_D_init_45 : decode b_D_init 45 = .ok (.aload_n 0, 1) := by decide +kernel
theorem d_D_init_46 : decode b_D_init 46 = .ok (.iconst 5, 1) := by decide +kernel
theorem d_D_init_47 : decode b_D_init 47 = .ok (.newarray .int, 2) := by decide +kernel
theorem d_D_init_49 : decode b_D_init 49 = .ok (.putfield 22, 3) := by decide +kernel
theorem d_D_init_52 : decode b_D_init 52 = .ok (.aload_n 0, 1) := by decide +kernel
theorem d_D_init_53 : decode b_D_init 53 = .ok (.iconst 0, 1) := by decide +kernel
theorem d_D_init_54 : decode b_D_init 54 = .ok (.putfield 26, 3) := by decide +kernel
theorem d_D_init_57 : decode b_D_init 57 = .ok (.return_, 1) := by decide +kernel
theorem d_D_open_0 : decode b_D_open 0 = .ok (.aload_n 0, 1) := by decide +kernel
theorem d_D_open_1 : decode b_D_open 1 = .ok (.iconst 1, 1) := by decide +kernel
theorem d_D_open_2 : decode b_D_open 2 = .ok (.putfield 26, 3) := by decide +kernel
theorem d_D_open_5 : decode b_D_open 5 = .ok (.aload_n 0, 1) := by decide +kernel
theorem d_D_open_6 : decode b_D_open 6 = .ok (.iload_n 1, 1) := by decide +kernel
theorem d_D_open_7 : decode b_D_open 7 = .ok (.putfield 30, 3) := by decide +kernel
theorem d_D_open_10 : decode b_D_open 10 = .ok (.aload_n 0, 1) := by decide +kernel
theorem d_D_open_11 : decode b_D_open 11 = .ok (.iload_n 2, 1) := by decide +kernel
theorem d_D_open_12 : decode b_D_open 12 = .ok (.putfield 34, 3) := by decide +kernel
theorem d_D_open_15 : decode b_D_open 15 = .ok (.aload_n 0, 1) := by decide +kernel
theorem d_D_open_16 : decode b_D_open 16 = .ok (.iload_n 3, 1) := by decide +kernel
theorem d_D_open_17 : decode b_D_open 17 = .ok (.putfield 37, 3) := by decide +kernel
theorem d_D_open_20 : decode b_D_open 20 = .ok (.aload_n 0, 1) := by decide +kernel
theorem d_D_open_21 : decode b_D_open 21 = .ok (.iconst 0, 1) := by decide +kernel
theorem d_D_open_22 : decode b_D_open 22 = .ok (.putfield 40, 3) := by decide +kernel
theorem d_D_open_25 : decode b_D_open 25 = .ok (.aload_n 0, 1) := by decide +kernel
theorem d_D_open_26 : decode b_D_open 26 = .ok (.iconst 0, 1) := by decide +kernel
theorem d_D_open_27 : decode b_D_open 27 = .ok (.iconst (-1), 1) := by decide +kernel
theorem d_D_open_28 : decode b_D_open 28 = .ok (.invokevirtual 43, 3) := by decide +kernel
theorem d_D_open_31 : decode b_D_open 31 = .ok (.aload_n 0, 1) := by decide +kernel
theorem d_D_open_32 : decode b_D_open 32 = .ok (.iconst (-1), 1) := by decide +kernel
theorem d_D_open_33 : decode b_D_open 33 = .ok (.putfield 47, 3) := by decide +kernel
theorem d_D_open_36 : decode b_D_open 36 = .ok (.aload_n 0, 1) := by decide +kernel
theorem d_D_open_37 : decode b_D_open 37 = .ok (.iconst (-1), 1) := by decide +kernel
theorem d_D_open_38 : decode b_D_open 38 = .ok (.putfield 50, 3) := by decide +kernel
theorem d_D_open_41 : decode b_D_open 41 = .ok (.aload_n 0, 1) := by decide +kernel
theorem d_D_open_42 : decode b_D_open 42 = .ok (.getfield 11, 3) := by decide +kernel
theorem d_D_open_45 : decode b_D_open 45 = .ok (.iconst 0, 1) := by decide +kernel
theorem d_D_open_46 : decode b_D_open 46 = .ok (.aaload, 1) := by decide +kernel
theorem d_D_open_47 : decode b_D_open 47 = .ok (.iconst 0, 1) := by decide +kernel
theorem d_D_open_48 : decode b_D_open 48 = .ok (.putfield 53, 3) := by decide +kernel
theorem d_D_open_51 : decode b_D_open 51 = .ok (.aload_n 0, 1) := by decide +kernel
theorem d_D_open_52 : decode b_D_open 52 = .ok (.getfield 11, 3) := by decide +kernel
theorem d_D_open_55 : decode b_D_open 55 = .ok (.iconst 0, 1) := by decide +kernel
theorem d_D_open_56 : decode b_D_open 56 = .ok (.aaload, 1) := by decide +kernel
theorem d_D_open_57 : decode b_D_open 57 = .ok (.iload 4, 2) := by decide +kernel
theorem d_D_open_59 : decode b_D_open 59 = .ok (.invokevirtual 56, 3) := by decide +kernel
theorem d_D_open_62 : decode b_D_open 62 = .ok (.aload_n 0, 1) := by decide +kernel
theorem d_D_open_63 : decode b_D_open 63 = .ok (.getfield 11, 3) := by decide +kernel
theorem d_D_open_66 : decode b_D_open 66 = .ok (.iconst 1, 1) := by decide +kernel
theorem d_D_open_67 : decode b_D_open 67 = .ok (.aaload, 1) := by decide +kernel
theorem d_D_open_68 : decode b_D_open 68 = .ok (.iconst 0, 1) := by decide +kernel
theorem d_D_open_69 : decode b_D_open 69 = .ok (.putfield 53, 3) := by decide +kernel
theorem d_D_open_72 : decode b_D_open 72 = .ok (.aload_n 0, 1) := by decide +kernel
theorem d_D_open_73 : decode b_D_open 73 = .ok (.invokevirtual 60, 3) := by decide +kernel
theorem d_D_open_76 : decode b_D_open 76 = .ok (.return_, 1) := by decide +kernel
theorem d_D_enter_0 : decode b_D_enter 0 = .ok (.aload_n 0, 1) := by decide +kernel
theorem d_D_enter_1 : decode b_D_enter 1 = .ok (.iload_n 1, 1) := by decide +kernel
theorem d_D_enter_2 : decode b_D_enter 2 = .ok (.putfield 63, 3) := by decide +kernel
theorem d_D_enter_5 : decode b_D_enter 5 = .ok (.aload_n 0, 1) := by decide +kernel
theorem d_D_enter_6 : decode b_D_enter 6 = .ok (.iload_n 2, 1) := by decide +kernel
theorem d_D_enter_7 : decode b_D_enter 7 = .ok (.putfield 66, 3) := by decide +kernel
theorem d_D_enter_10 : decode b_D_enter 10 = .ok (.return_, 1) := by decide +kernel
theorem d_D_uses_0 : decode b_D_uses 0 = .ok (.aload_n 0, 1) := by decide +kernel
theorem d_D_uses_1 : decode b_D_uses 1 = .ok (.getfield 26, 3) := by decide +kernel
theorem d_D_uses_4 : decode b_D_uses 4 = .ok (.ifCond .eq 21, 3) := by decide +kernel
theorem d_D_uses_7 : decode b_D_uses 7 = .ok (.aload_n 0, 1) := by decide +kernel
theorem d_D_uses_8 : decode b_D_uses 8 = .ok (.getfield 11, 3) := by decide +kernel
theorem d_D_uses_11 : decode b_D_uses 11 = .ok (.iload_n 1, 1) := by decide +kernel
theorem d_D_uses_12 : decode b_D_uses 12 = .ok (.aaload, 1) := by decide +kernel
theorem d_D_uses_13 : decode b_D_uses 13 = .ok (.iload_n 2, 1) := by decide +kernel
theorem d_D_uses_14 : decode b_D_uses 14 = .ok (.invokevirtual 69, 3) := by decide +kernel
theorem d_D_uses_17 : decode b_D_uses 17 = .ok (.iconst (-1), 1) := by decide +kernel
theorem d_D_uses_18 : decode b_D_uses 18 = .ok (.if_icmp .eq 7, 3) := by decide +kernel
theorem d_D_uses_21 : decode b_D_uses 21 = .ok (.iconst 1, 1) := by decide +kernel
theorem d_D_uses_22 : decode b_D_uses 22 = .ok (.goto 4, 3) := by decide +kernel
theorem d_D_uses_25 : decode b_D_uses 25 = .ok (.iconst 0, 1) := by decide +kernel
theorem d_D_uses_26 : decode b_D_uses 26 = .ok (.ireturn, 1) := by decide +kernel
theorem d_D_isDelegated_0 : decode b_D_isDelegated 0 = .ok (.aload_n 0, 1) := by decide +kernel
theorem d_D_isDelegated_1 : decode b_D_isDelegated 1 = .ok (.getfield 26, 3) := by decide +kernel
theorem d_D_isDelegated_4 : decode b_D_isDelegated 4 = .ok (.ifCond .eq 36, 3) := by decide +kernel
theorem d_D_isDelegated_7 : decode b_D_isDelegated 7 = .ok (.aload_n 0, 1) := by decide +kernel
theorem d_D_isDelegated_8 : decode b_D_isDelegated 8 = .ok (.getfield 63, 3) := by decide +kernel
theorem d_D_isDelegated_11 : decode b_D_isDelegated 11 = .ok (.ifCond .ne 29, 3) := by decide +kernel
theorem d_D_isDelegated_14 : decode b_D_isDelegated 14 = .ok (.aload_n 0, 1) := by decide +kernel
theorem d_D_isDelegated_15 : decode b_D_isDelegated 15 = .ok (.getfield 40, 3) := by decide +kernel
theorem d_D_isDelegated_18 : decode b_D_isDelegated 18 = .ok (.bipush 16, 2) := by decide +kernel
theorem d_D_isDelegated_20 : decode b_D_isDelegated 20 = .ok (.iand, 1) := by decide +kernel
theorem d_D_isDelegated_21 : decode b_D_isDelegated 21 = .ok (.ifCond .ne 19, 3) := by decide +kernel
theorem d_D_isDelegated_24 : decode b_D_isDelegated 24 = .ok (.aload_n 0, 1) := by decide +kernel
theorem d_D_isDelegated_25 : decode b_D_isDelegated 25 = .ok (.getfield 11, 3) := by decide +kernel
theorem d_D_isDelegated_28 : decode b_D_isDelegated 28 = .ok (.iconst 1, 1) := by decide +kernel
theorem d_D_isDelegated_29 : decode b_D_isDelegated 29 = .ok (.aaload, 1) := by decide +kernel
theorem d_D_isDelegated_30 : decode b_D_isDelegated 30 = .ok (.getfield 53, 3) := by decide +kernel
theorem d_D_isDelegated_33 : decode b_D_isDelegated 33 = .ok (.ifCond .le 7, 3) := by decide +kernel
theorem d_D_isDelegated_36 : decode b_D_isDelegated 36 = .ok (.iconst 1, 1) := by decide +kernel
theorem d_D_isDelegated_37 : decode b_D_isDelegated 37 = .ok (.goto 4, 3) := by decide +kernel
theorem d_D_isDelegated_40 : decode b_D_isDelegated 40 = .ok (.iconst 0, 1) := by decide +kernel
theorem d_D_isDelegated_41 : decode b_D_isDelegated 41 = .ok (.ireturn, 1) := by decide +kernel
theorem d_D_setGrace_0 : decode b_D_setGrace 0 = .ok (.aload_n 0, 1) := by decide +kernel
theorem d_D_setGrace_1 : decode b_D_setGrace 1 = .ok (.getfield 18, 3) := by decide +kernel
theorem d_D_setGrace_4 : decode b_D_setGrace 4 = .ok (.iload_n 1, 1) := by decide +kernel
theorem d_D_setGrace_5 : decode b_D_setGrace 5 = .ok (.dload_n 2, 1) := by decide +kernel
theorem d_D_setGrace_6 : decode b_D_setGrace 6 = .ok (.dastore, 1) := by decide +kernel
theorem d_D_setGrace_7 : decode b_D_setGrace 7 = .ok (.aload_n 0, 1) := by decide +kernel
theorem d_D_setGrace_8 : decode b_D_setGrace 8 = .ok (.getfield 22, 3) := by decide +kernel
theorem d_D_setGrace_11 : decode b_D_setGrace 11 = .ok (.iload_n 1, 1) := by decide +kernel
theorem d_D_setGrace_12 : decode b_D_setGrace 12 = .ok (.iload 4, 2) := by decide +kernel
theorem d_D_setGrace_14 : decode b_D_setGrace 14 = .ok (.iastore, 1) := by decide +kernel
theorem d_D_setGrace_15 : decode b_D_setGrace 15 = .ok (.return_, 1) := by decide +kernel
theorem d_D_clearGraces_0 : decode b_D_clearGraces 0 = .ok (.iconst 0, 1) := by decide +kernel
theorem d_D_clearGraces_1 : decode b_D_clearGraces 1 = .ok (.istore_n 1, 1) := by decide +kernel
theorem d_D_clearGraces_2 : decode b_D_clearGraces 2 = .ok (.iload_n 1, 1) := by decide +kernel
theorem d_D_clearGraces_3 : decode b_D_clearGraces 3 = .ok (.iconst 5, 1) := by decide +kernel
theorem d_D_clearGraces_4 : decode b_D_clearGraces 4 = .ok (.if_icmp .ge 16, 3) := by decide +kernel
theorem d_D_clearGraces_7 : decode b_D_clearGraces 7 = .ok (.aload_n 0, 1) := by decide +kernel
theorem d_D_clearGraces_8 : decode b_D_clearGraces 8 = .ok (.iload_n 1, 1) := by decide +kernel
theorem d_D_clearGraces_9 : decode b_D_clearGraces 9 = .ok (.dconst 0, 1) := by decide +kernel
theorem d_D_clearGraces_10 : decode b_D_clearGraces 10 = .ok (.iconst (-1), 1) := by decide +kernel
theorem d_D_clearGraces_11 : decode b_D_clearGraces 11 = .ok (.invokevirtual 73, 3) := by decide +kernel
theorem d_D_clearGraces_14 : decode b_D_clearGraces 14 = .ok (.iinc 1 1, 3) := by decide +kernel
theorem d_D_clearGraces_17 : decode b_D_clearGraces 17 = .ok (.goto (-15), 3) := by decide +kernel
theorem d_D_clearGraces_20 : decode b_D_clearGraces 20 = .ok (.return_, 1) := by decide +kernel
theorem d_D_graceIsOn_0 : decode b_D_graceIsOn 0 = .ok (.iload_n 2, 1) := by decide +kernel
theorem d_D_graceIsOn_1 : decode b_D_graceIsOn 1 = .ok (.aload_n 0, 1) := by decide +kernel
theorem d_D_graceIsOn_2 : decode b_D_graceIsOn 2 = .ok (.getfield 22, 3) := by decide +kernel
theorem d_D_graceIsOn_5 : decode b_D_graceIsOn 5 = .ok (.iload_n 1, 1) := by decide +kernel
theorem d_D_graceIsOn_6 : decode b_D_graceIsOn 6 = .ok (.iaload, 1) := by decide +kernel
theorem d_D_graceIsOn_7 : decode b_D_graceIsOn 7 = .ok (.if_icmp .gt 7, 3) := by decide +kernel
theorem d_D_graceIsOn_10 : decode b_D_graceIsOn 10 = .ok (.iconst 1, 1) := by decide +kernel
theorem d_D_graceIsOn_11 : decode b_D_graceIsOn 11 = .ok (.goto 4, 3) := by decide +kernel
theorem d_D_graceIsOn_14 : decode b_D_graceIsOn 14 = .ok (.iconst 0, 1) := by decide +kernel
theorem d_D_graceIsOn_15 : decode b_D_graceIsOn 15 = .ok (.ireturn, 1) := by decide +kernel
theorem d_D_gracesOn_0 : decode b_D_gracesOn 0 = .ok (.iconst 0, 1) := by decide +kernel
theorem d_D_gracesOn_1 : decode b_D_gracesOn 1 = .ok (.istore_n 2, 1) := by decide +kernel
theorem d_D_gracesOn_2 : decode b_D_gracesOn 2 = .ok (.iconst 0, 1) := by decide +kernel
theorem d_D_gracesOn_3 : decode b_D_gracesOn 3 = .ok (.istore_n 3, 1) := by decide +kernel
theorem d_D_gracesOn_4 : decode b_D_gracesOn 4 = .ok (.iload_n 3, 1) := by decide +kernel
theorem d_D_gracesOn_5 : decode b_D_gracesOn 5 = .ok (.iconst 5, 1) := by decide +kernel
theorem d_D_gracesOn_6 : decode b_D_gracesOn 6 = .ok (.if_icmp .ge 24, 3) := by decide +kernel
theorem d_D_gracesOn_9 : decode b_D_gracesOn 9 = .ok (.aload_n 0, 1) := by decide +kernel
theorem d_D_gracesOn_10 : decode b_D_gracesOn 10 = .ok (.iload_n 3, 1) := by decide +kernel
theorem d_D_gracesOn_11 : decode b_D_gracesOn 11 = .ok (.iload_n 1, 1) := by decide +kernel
theorem d_D_gracesOn_12 : decode b_D_gracesOn 12 = .ok (.invokevirtual 77, 3) := by decide +kernel
theorem d_D_gracesOn_15 : decode b_D_gracesOn 15 = .ok (.ifCond .eq 9, 3) := by decide +kernel
theorem d_D_gracesOn_18 : decode b_D_gracesOn 18 = .ok (.iload_n 2, 1) := by decide +kernel
theorem d_D_gracesOn_19 : decode b_D_gracesOn 19 = .ok (.iconst 1, 1) := by decide +kernel
theorem d_D_gracesOn_20 : decode b_D_gracesOn 20 = .ok (.iload_n 3, 1) := by decide +kernel
theorem d_D_gracesOn_21 : decode b_D_gracesOn 21 = .ok (.ishl, 1) := by decide +kernel
theorem d_D_gracesOn_22 : decode b_D_gracesOn 22 = .ok (.iadd, 1) := by decide +kernel
theorem d_D_gracesOn_23 : decode b_D_gracesOn 23 = .ok (.istore_n 2, 1) := by decide +kernel
theorem d_D_gracesOn_24 : decode b_D_gracesOn 24 = .ok (.iinc 3 1, 3) := by decide +kernel
theorem d_D_gracesOn_27 : decode b_D_gracesOn 27 = .ok (.goto (-23), 3) := by decide +kernel
theorem d_D_gracesOn_30 : decode b_D_gracesOn 30 = .ok (.iload_n 2, 1) := by decide +kernel
theorem d_D_gracesOn_31 : decode b_D_gracesOn 31 = .ok (.ireturn, 1) := by decide +kernel
theorem d_D_graceCosts_0 : decode b_D_graceCosts 0 = .ok (.dconst 0, 1) := by decide +kernel
theorem d_D_graceCosts_1 : decode b_D_graceCosts 1 = .ok (.dstore_n 2, 1) := by decide +kernel
theorem d_D_graceCosts_2 : decode b_D_graceCosts 2 = .ok (.iconst 0, 1) := by decide +kernel
theorem d_D_graceCosts_3 : decode b_D_graceCosts 3 = .ok (.istore 4, 2) := by decide +kernel
theorem d_D_graceCosts_5 : decode b_D_graceCosts 5 = .ok (.iload 4, 2) := by decide +kernel
theorem d_D_graceCosts_7 : decode b_D_graceCosts 7 = .ok (.iconst 5, 1) := by decide +kernel
theorem d_D_graceCosts_8 : decode b_D_graceCosts 8 = .ok (.if_icmp .ge 29, 3) := by decide +kernel
theorem d_D_graceCosts_11 : decode b_D_graceCosts 11 = .ok (.aload_n 0, 1) := by decide +kernel
theorem d_D_graceCosts_12 : decode b_D_graceCosts 12 = .ok (.iload 4, 2) := by decide +kernel
theorem d_D_graceCosts_14 : decode b_D_graceCosts 14 = .ok (.iload_n 1, 1) := by decide +kernel
theorem d_D_graceCosts_15 : decode b_D_graceCosts 15 = .ok (.invokevirtual 77, 3) := by decide +kernel
theorem d_D_graceCosts_18 : decode b_D_graceCosts 18 = .ok (.ifCond .eq 13, 3) := by decide +kernel
theorem d_D_graceCosts_21 : decode b_D_graceCosts 21 = .ok (.dload_n 2, 1) := by decide +kernel
theorem d_D_graceCosts_22 : decode b_D_graceCosts 22 = .ok (.aload_n 0, 1) := by decide +kernel
theorem d_D_graceCosts_23 : decode b_D_graceCosts 23 = .ok (.getfield 18, 3) := by decide +kernel
theorem d_D_graceCosts_26 : decode b_D_graceCosts 26 = .ok (.iload 4, 2) := by decide +kernel
theorem d_D_graceCosts_28 : decode b_D_graceCosts 28 = .ok (.daload, 1) := by decide +kernel
theorem d_D_graceCosts_29 : decode b_D_graceCosts 29 = .ok (.dadd, 1) := by decide +kernel
theorem d_D_graceCosts_30 : decode b_D_graceCosts 30 = .ok (.dstore_n 2, 1) := by decide +kernel
theorem d_D_graceCosts_31 : decode b_D_graceCosts 31 = .ok (.iinc 4 1, 3) := by decide +kernel
theorem d_D_graceCosts_34 : decode b_D_graceCosts 34 = .ok (.goto (-29), 3) := by decide +kernel
theorem d_D_graceCosts_37 : decode b_D_graceCosts 37 = .ok (.dload_n 2, 1) := by decide +kernel
theorem d_D_graceCosts_38 : decode b_D_graceCosts 38 = .ok (.dreturn, 1) := by decide +kernel
theorem d_T_init_0 : decode b_T_init 0 = .ok (.aload_n 0, 1) := by decide +kernel
theorem d_T_init_1 : decode b_T_init 1 = .ok (.invokespecial 3, 3) := by decide +kernel
theorem d_T_init_4 : decode b_T_init 4 = .ok (.aload_n 0, 1) := by decide +kernel
theorem d_T_init_5 : decode b_T_init 5 = .ok (.iconst 0, 1) := by decide +kernel
theorem d_T_init_6 : decode b_T_init 6 = .ok (.putfield 9, 3) := by decide +kernel
theorem d_T_init_9 : decode b_T_init 9 = .ok (.aload_n 0, 1) := by decide +kernel
theorem d_T_init_10 : decode b_T_init 10 = .ok (.iconst (-1), 1) := by decide +kernel
theorem d_T_init_11 : decode b_T_init 11 = .ok (.putfield 15, 3) := by decide +kernel
theorem d_T_init_14 : decode b_T_init 14 = .ok (.aload_n 0, 1) := by decide +kernel
theorem d_T_init_15 : decode b_T_init 15 = .ok (.iconst (-1), 1) := by decide +kernel
theorem d_T_init_16 : decode b_T_init 16 = .ok (.putfield 19, 3) := by decide +kernel
theorem d_T_init_19 : decode b_T_init 19 = .ok (.aload_n 0, 1) := by decide +kernel
theorem d_T_init_20 : decode b_T_init 20 = .ok (.iconst 0, 1) := by decide +kernel
theorem d_T_init_21 : decode b_T_init 21 = .ok (.putfield 22, 3) := by decide +kernel
theorem d_T_init_24 : decode b_T_init 24 = .ok (.return_, 1) := by decide +kernel
theorem d_R_init_0 : decode b_R_init 0 = .ok (.aload_n 0, 1) := by decide +kernel
theorem d_R_init_1 : decode b_R_init 1 = .ok (.invokespecial 3, 3) := by decide +kernel
theorem d_R_init_4 : decode b_R_init 4 = .ok (.aload_n 0, 1) := by decide +kernel
theorem d_R_init_5 : decode b_R_init 5 = .ok (.iconst 3, 1) := by decide +kernel
theorem d_R_init_6 : decode b_R_init 6 = .ok (.newarray .int, 2) := by decide +kernel
theorem d_R_init_8 : decode b_R_init 8 = .ok (.putfield 9, 3) := by decide +kernel
theorem d_R_init_11 : decode b_R_init 11 = .ok (.aload_n 0, 1) := by decide +kernel
theorem d_R_init_12 : decode b_R_init 12 = .ok (.iconst 0, 1) := by decide +kernel
theorem d_R_init_13 : decode b_R_init 13 = .ok (.putfield 15, 3) := by decide +kernel
theorem d_R_init_16 : decode b_R_init 16 = .ok (.return_, 1) := by decide +kernel
theorem d_R_at_0 : decode b_R_at 0 = .ok (.iload_n 1, 1) := by decide +kernel
theorem d_R_at_1 : decode b_R_at 1 = .ok (.ifCond .lt 20, 3) := by decide +kernel
theorem d_R_at_4 : decode b_R_at 4 = .ok (.iload_n 1, 1) := by decide +kernel
theorem d_R_at_5 : decode b_R_at 5 = .ok (.aload_n 0, 1) := by decide +kernel
theorem d_R_at_6 : decode b_R_at 6 = .ok (.getfield 15, 3) := by decide +kernel
theorem d_R_at_9 : decode b_R_at 9 = .ok (.if_icmp .ge 12, 3) := by decide +kernel
theorem d_R_at_12 : decode b_R_at 12 = .ok (.aload_n 0, 1) := by decide +kernel
theorem d_R_at_13 : decode b_R_at 13 = .ok (.getfield 9, 3) := by decide +kernel
theorem d_R_at_16 : decode b_R_at 16 = .ok (.iload_n 1, 1) := by decide +kernel
theorem d_R_at_17 : decode b_R_at 17 = .ok (.iaload, 1) := by decide +kernel
theorem d_R_at_18 : decode b_R_at 18 = .ok (.goto 4, 3) := by decide +kernel
theorem d_R_at_21 : decode b_R_at 21 = .ok (.iconst (-1), 1) := by decide +kernel
theorem d_R_at_22 : decode b_R_at 22 = .ok (.ireturn, 1) := by decide +kernel
theorem d_R_placeOf_0 : decode b_R_placeOf 0 = .ok (.iconst 0, 1) := by decide +kernel
theorem d_R_placeOf_1 : decode b_R_placeOf 1 = .ok (.istore_n 2, 1) := by decide +kernel
theorem d_R_placeOf_2 : decode b_R_placeOf 2 = .ok (.iload_n 2, 1) := by decide +kernel
theorem d_R_placeOf_3 : decode b_R_placeOf 3 = .ok (.aload_n 0, 1) := by decide +kernel
theorem d_R_placeOf_4 : decode b_R_placeOf 4 = .ok (.getfield 15, 3) := by decide +kernel
theorem d_R_placeOf_7 : decode b_R_placeOf 7 = .ok (.if_icmp .ge 21, 3) := by decide +kernel
theorem d_R_placeOf_10 : decode b_R_placeOf 10 = .ok (.aload_n 0, 1) := by decide +kernel
theorem d_R_placeOf_11 : decode b_R_placeOf 11 = .ok (.getfield 9, 3) := by decide +kernel
theorem d_R_placeOf_14 : decode b_R_placeOf 14 = .ok (.iload_n 2, 1) := by decide +kernel
theorem d_R_placeOf_15 : decode b_R_placeOf 15 = .ok (.iaload, 1) := by decide +kernel
theorem d_R_placeOf_16 : decode b_R_placeOf 16 = .ok (.iload_n 1, 1) := by decide +kernel
theorem d_R_placeOf_17 : decode b_R_placeOf 17 = .ok (.if_icmp .ne 5, 3) := by decide +kernel
theorem d_R_placeOf_20 : decode b_R_placeOf 20 = .ok (.iload_n 2, 1) := by decide +kernel
theorem d_R_placeOf_21 : decode b_R_placeOf 21 = .ok (.ireturn, 1) := by decide +kernel
theorem d_R_placeOf_22 : decode b_R_placeOf 22 = .ok (.iinc 2 1, 3) := by decide +kernel
theorem d_R_placeOf_25 : decode b_R_placeOf 25 = .ok (.goto (-23), 3) := by decide +kernel
theorem d_R_placeOf_28 : decode b_R_placeOf 28 = .ok (.iconst (-1), 1) := by decide +kernel
theorem d_R_placeOf_29 : decode b_R_placeOf 29 = .ok (.ireturn, 1) := by decide +kernel
theorem d_R_append_0 : decode b_R_append 0 = .ok (.aload_n 0, 1) := by decide +kernel
theorem d_R_append_1 : decode b_R_append 1 = .ok (.getfield 15, 3) := by decide +kernel
theorem d_R_append_4 : decode b_R_append 4 = .ok (.iconst 3, 1) := by decide +kernel
theorem d_R_append_5 : decode b_R_append 5 = .ok (.if_icmp .ge 23, 3) := by decide +kernel
theorem d_R_append_8 : decode b_R_append 8 = .ok (.aload_n 0, 1) := by decide +kernel
theorem d_R_append_9 : decode b_R_append 9 = .ok (.getfield 9, 3) := by decide +kernel
theorem d_R_append_12 : decode b_R_append 12 = .ok (.aload_n 0, 1) := by decide +kernel
theorem d_R_append_13 : decode b_R_append 13 = .ok (.getfield 15, 3) := by decide +kernel
theorem d_R_append_16 : decode b_R_append 16 = .ok (.iload_n 1, 1) := by decide +kernel
theorem d_R_append_17 : decode b_R_append 17 = .ok (.iastore, 1) := by decide +kernel
theorem d_R_append_18 : decode b_R_append 18 = .ok (.aload_n 0, 1) := by decide +kernel
theorem d_R_append_19 : decode b_R_append 19 = .ok (.dup, 1) := by decide +kernel
theorem d_R_append_20 : decode b_R_append 20 = .ok (.getfield 15, 3) := by decide +kernel
theorem d_R_append_23 : decode b_R_append 23 = .ok (.iconst 1, 1) := by decide +kernel
theorem d_R_append_24 : decode b_R_append 24 = .ok (.iadd, 1) := by decide +kernel
theorem d_R_append_25 : decode b_R_append 25 = .ok (.putfield 15, 3) := by decide +kernel
theorem d_R_append_28 : decode b_R_append 28 = .ok (.return_, 1) := by decide +kernel
theorem d_R_takeOff_0 : decode b_R_takeOff 0 = .ok (.aload_n 0, 1) := by decide +kernel
theorem d_R_takeOff_1 : decode b_R_takeOff 1 = .ok (.iload_n 1, 1) := by decide +kernel
theorem d_R_takeOff_2 : decode b_R_takeOff 2 = .ok (.invokevirtual 19, 3) := by decide +kernel
theorem d_R_takeOff_5 : decode b_R_takeOff 5 = .ok (.istore_n 2, 1) := by decide +kernel
theorem d_R_takeOff_6 : decode b_R_takeOff 6 = .ok (.iload_n 2, 1) := by decide +kernel
theorem d_R_takeOff_7 : decode b_R_takeOff 7 = .ok (.iconst (-1), 1) := by decide +kernel
theorem d_R_takeOff_8 : decode b_R_takeOff 8 = .ok (.if_icmp .eq 43, 3) := by decide +kernel
theorem d_R_takeOff_11 : decode b_R_takeOff 11 = .ok (.aload_n 0, 1) := by decide +kernel
theorem d_R_takeOff_12 : decode b_R_takeOff 12 = .ok (.dup, 1) := by decide +kernel
theorem d_R_takeOff_13 : decode b_R_takeOff 13 = .ok (.getfield 15, 3) := by decide +kernel
theorem d_R_takeOff_16 : decode b_R_takeOff 16 = .ok (.iconst 1, 1) := by decide +kernel
theorem d_R_takeOff_17 : decode b_R_takeOff 17 = .ok (.isub, 1) := by decide +kernel
theorem d_R_takeOff_18 : decode b_R_takeOff 18 = .ok (.putfield 15, 3) := by decide +kernel
theorem d_R_takeOff_21 : decode b_R_takeOff 21 = .ok (.iload_n 2, 1) := by decide +kernel
theorem d_R_takeOff_22 : decode b_R_takeOff 22 = .ok (.istore_n 3, 1) := by decide +kernel
theorem d_R_takeOff_23 : decode b_R_takeOff 23 = .ok (.iload_n 3, 1) := by decide +kernel
theorem d_R_takeOff_24 : decode b_R_takeOff 24 = .ok (.aload_n 0, 1) := by decide +kernel
theorem d_R_takeOff_25 : decode b_R_takeOff 25 = .ok (.getfield 15, 3) := by decide +kernel
theorem d_R_takeOff_28 : decode b_R_takeOff 28 = .ok (.if_icmp .ge 23, 3) := by decide +kernel
theorem d_R_takeOff_31 : decode b_R_takeOff 31 = .ok (.aload_n 0, 1) := by decide +kernel
theorem d_R_takeOff_32 : decode b_R_takeOff 32 = .ok (.getfield 9, 3) := by decide +kernel
theorem d_R_takeOff_35 : decode b_R_takeOff 35 = .ok (.iload_n 3, 1) := by decide +kernel
theorem d_R_takeOff_36 : decode b_R_takeOff 36 = .ok (.aload_n 0, 1) := by decide +kernel
theorem d_R_takeOff_37 : decode b_R_takeOff 37 = .ok (.getfield 9, 3) := by decide +kernel
theorem d_R_takeOff_40 : decode b_R_takeOff 40 = .ok (.iload_n 3, 1) := by decide +kernel
theorem d_R_takeOff_41 : decode b_R_takeOff 41 = .ok (.iconst 1, 1) := by decide +kernel
theorem d_R_takeOff_42 : decode b_R_takeOff 42 = .ok (.iadd, 1) := by decide +kernel
theorem d_R_takeOff_43 : decode b_R_takeOff 43 = .ok (.iaload, 1) := by decide +kernel
theorem d_R_takeOff_44 : decode b_R_takeOff 44 = .ok (.iastore, 1) := by decide +kernel
theorem d_R_takeOff_45 : decode b_R_takeOff 45 = .ok (.iinc 3 1, 3) := by decide +kernel
theorem d_R_takeOff_48 : decode b_R_takeOff 48 = .ok (.goto (-25), 3) := by decide +kernel
theorem d_R_takeOff_51 : decode b_R_takeOff 51 = .ok (.return_, 1) := by decide +kernel
theorem d_K_init_0 : decode b_K_init 0 = .ok (.aload_n 0, 1) := by decide +kernel
theorem d_K_init_1 : decode b_K_init 1 = .ok (.invokespecial 1, 3) := by decide +kernel
theorem d_K_init_4 : decode b_K_init 4 = .ok (.aload_n 0, 1) := by decide +kernel
theorem d_K_init_5 : decode b_K_init 5 = .ok (.iconst 4, 1) := by decide +kernel
theorem d_K_init_6 : decode b_K_init 6 = .ok (.newarray .double, 2) := by decide +kernel
theorem d_K_init_8 : decode b_K_init 8 = .ok (.putfield 9, 3) := by decide +kernel
theorem d_K_init_11 : decode b_K_init 11 = .ok (.iconst 0, 1) := by decide +kernel
theorem d_K_init_12 : decode b_K_init 12 = .ok (.istore_n 1, 1) := by decide +kernel
theorem d_K_init_13 : decode b_K_init 13 = .ok (.iload_n 1, 1) := by decide +kernel
theorem d_K_init_14 : decode b_K_init 14 = .ok (.iconst 4, 1) := by decide +kernel
theorem d_K_init_15 : decode b_K_init 15 = .ok (.if_icmp .ge 16, 3) := by decide +kernel
theorem d_K_init_18 : decode b_K_init 18 = .ok (.aload_n 0, 1) := by decide +kernel
theorem d_K_init_19 : decode b_K_init 19 = .ok (.getfield 9, 3) := by decide +kernel
theorem d_K_init_22 : decode b_K_init 22 = .ok (.iload_n 1, 1) := by decide +kernel
theorem d_K_init_23 : decode b_K_init 23 = .ok (.dconst 1, 1) := by decide +kernel
theorem d_K_init_24 : decode b_K_init 24 = .ok (.dastore, 1) := by decide +kernel
theorem d_K_init_25 : decode b_K_init 25 = .ok (.iinc 1 1, 3) := by decide +kernel
theorem d_K_init_28 : decode b_K_init 28 = .ok (.goto (-15), 3) := by decide +kernel
theorem d_K_init_31 : decode b_K_init 31 = .ok (.aload_n 0, 1) := by decide +kernel
theorem d_K_init_32 : decode b_K_init 32 = .ok (.iconst 4, 1) := by decide +kernel
theorem d_K_init_33 : decode b_K_init 33 = .ok (.anewarray 13, 3) := by decide +kernel
theorem d_K_init_36 : decode b_K_init 36 = .ok (.putfield 15, 3) := by decide +kernel
theorem d_K_init_39 : decode b_K_init 39 = .ok (.iconst 0, 1) := by decide +kernel
theorem d_K_init_40 : decode b_K_init 40 = .ok (.istore_n 1, 1) := by decide +kernel
theorem d_K_init_41 : decode b_K_init 41 = .ok (.iload_n 1, 1) := by decide +kernel
theorem d_K_init_42 : decode b_K_init 42 = .ok (.iconst 4, 1) := by decide +kernel
theorem d_K_init_43 : decode b_K_init 43 = .ok (.if_icmp .ge 22, 3) := by decide +kernel
theorem d_K_init_46 : decode b_K_init 46 = .ok (.aload_n 0, 1) := by decide +kernel
theorem d_K_init_47 : decode b_K_init 47 = .ok (.getfield 15, 3) := by decide +kernel
theorem d_K_init_50 : decode b_K_init 50 = .ok (.iload_n 1, 1) := by decide +kernel
theorem d_K_init_51 : decode b_K_init 51 = .ok (.new 13, 3) := by decide +kernel
theorem d_K_init_54 : decode b_K_init 54 = .ok (.dup, 1) := by decide +kernel
theorem d_K_init_55 : decode b_K_init 55 = .ok (.invokespecial 19, 3) := by decide +kernel
theorem d_K_init_58 : decode b_K_init 58 = .ok (.aastore, 1) := by decide +kernel
theorem d_K_init_59 : decode b_K_init 59 = .ok (.iinc 1 1, 3) := by decide +kernel
theorem d_K_init_62 : decode b_K_init 62 = .ok (.goto (-21), 3) := by decide +kernel
theorem d_K_init_65 : decode b_K_init 65 = .ok (.aload_n 0, 1) := by decide +kernel
theorem d_K_init_66 : decode b_K_init 66 = .ok (.iconst 2, 1) := by decide +kernel
theorem d_K_init_67 : decode b_K_init 67 = .ok (.anewarray 20, 3) := by decide +kernel
theorem d_K_init_70 : decode b_K_init 70 = .ok (.putfield 22, 3) := by decide +kernel
theorem d_K_init_73 : decode b_K_init 73 = .ok (.aload_n 0, 1) := by decide +kernel
theorem d_K_init_74 : decode b_K_init 74 = .ok (.getfield 22, 3) := by decide +kernel
theorem d_K_init_77 : decode b_K_init 77 = .ok (.iconst 0, 1) := by decide +kernel
theorem d_K_init_78 : decode b_K_init 78 = .ok (.new 20, 3) := by decide +kernel
theorem d_K_init_81 : decode b_K_init 81 = .ok (.dup, 1) := by decide +kernel
theorem d_K_init_82 : decode b_K_init 82 = .ok (.invokespecial 26, 3) := by decide +kernel
theorem d_K_init_85 : decode b_K_init 85 = .ok (.aastore, 1) := by decide +kernel
theorem d_K_init_86 : decode b_K_init 86 = .ok (.aload_n 0, 1) := by decide +kernel
theorem d_K_init_87 : decode b_K_init 87 = .ok (.getfield 22, 3) := by decide +kernel
theorem d_K_init_90 : decode b_K_init 90 = .ok (.iconst 1, 1) := by decide +kernel
theorem d_K_init_91 : decode b_K_init 91 = .ok (.new 20, 3) := by decide +kernel
theorem d_K_init_94 : decode b_K_init 94 = .ok (.dup, 1) := by decide +kernel
theorem d_K_init_95 : decode b_K_init 95 = .ok (.invokespecial 26, 3) := by decide +kernel
theorem d_K_init_98 : decode b_K_init 98 = .ok (.aastore, 1) := by decide +kernel
theorem d_K_init_99 : decode b_K_init 99 = .ok (.aload_n 0, 1) := by decide +kernel
theorem d_K_init_100 : decode b_K_init 100 = .ok (.bipush 10, 2) := by decide +kernel
theorem d_K_init_102 : decode b_K_init 102 = .ok (.anewarray 27, 3) := by decide +kernel
theorem d_K_init_105 : decode b_K_init 105 = .ok (.putfield 29, 3) := by decide +kernel
theorem d_K_init_108 : decode b_K_init 108 = .ok (.iconst 0, 1) := by decide +kernel
theorem d_K_init_109 : decode b_K_init 109 = .ok (.istore_n 1, 1) := by decide +kernel
theorem d_K_init_110 : decode b_K_init 110 = .ok (.iload_n 1, 1) := by decide +kernel
theorem d_K_init_111 : decode b_K_init 111 = .ok (.bipush 10, 2) := by decide +kernel
theorem d_K_init_113 : decode b_K_init 113 = .ok (.if_icmp .ge 22, 3) := by decide +kernel
theorem d_K_init_116 : decode b_K_init 116 = .ok (.aload_n 0, 1) := by decide +kernel
theorem d_K_init_117 : decode b_K_init 117 = .ok (.getfield 29, 3) := by decide +kernel
theorem d_K_init_120 : decode b_K_init 120 = .ok (.iload_n 1, 1) := by decide +kernel
theorem d_K_init_121 : decode b_K_init 121 = .ok (.new 27, 3) := by decide +kernel
theorem d_K_init_124 : decode b_K_init 124 = .ok (.dup, 1) := by decide +kernel
theorem d_K_init_125 : decode b_K_init 125 = .ok (.invokespecial 33, 3) := by decide +kernel
theorem d_K_init_128 : decode b_K_init 128 = .ok (.aastore, 1) := by decide +kernel
theorem d_K_init_129 : decode b_K_init 129 = .ok (.iinc 1 1, 3) := by decide +kernel
theorem d_K_init_132 : decode b_K_init 132 = .ok (.goto (-22), 3) := by decide +kernel
theorem d_K_init_135 : decode b_K_init 135 = .ok (.aload_n 0, 1) := by decide +kernel
theorem d_K_init_136 : decode b_K_init 136 = .ok (.iconst 0, 1) := by decide +kernel
theorem d_K_init_137 : decode b_K_init 137 = .ok (.putfield 34, 3) := by decide +kernel
theorem d_K_init_140 : decode b_K_init 140 = .ok (.return_, 1) := by decide +kernel
theorem d_K_price_0 : decode b_K_price 0 = .ok (.iload_n 1, 1) := by decide +kernel
theorem d_K_price_1 : decode b_K_price 1 = .ok (.iconst 0, 1) := by decide +kernel
theorem d_K_price_2 : decode b_K_price 2 = .ok (.iconst 3, 1) := by decide +kernel
theorem d_K_price_3 : decode b_K_price 3 = .ok (.invokestatic 38, 3) := by decide +kernel
theorem d_K_price_6 : decode b_K_price 6 = .ok (.dload_n 2, 1) := by decide +kernel
theorem d_K_price_7 : decode b_K_price 7 = .ok (.invokestatic 42, 3) := by decide +kernel
theorem d_K_price_10 : decode b_K_price 10 = .ok (.aload_n 0, 1) := by decide +kernel
theorem d_K_price_11 : decode b_K_price 11 = .ok (.getfield 9, 3) := by decide +kernel
theorem d_K_price_14 : decode b_K_price 14 = .ok (.iload_n 1, 1) := by decide +kernel
theorem d_K_price_15 : decode b_K_price 15 = .ok (.dload_n 2, 1) := by decide +kernel
theorem d_K_price_16 : decode b_K_price 16 = .ok (.dastore, 1) := by decide +kernel
theorem d_K_price_17 : decode b_K_price 17 = .ok (.iconst 0, 1) := by decide +kernel
theorem d_K_price_18 : decode b_K_price 18 = .ok (.ireturn, 1) := by decide +kernel
theorem d_K_deposit_0 : decode b_K_deposit 0 = .ok (.iload_n 1, 1) := by decide +kernel
theorem d_K_deposit_1 : decode b_K_deposit 1 = .ok (.invokestatic 46, 3) := by decide +kernel
theorem d_K_deposit_4 : decode b_K_deposit 4 = .ok (.dload_n 2, 1) := by decide +kernel
theorem d_K_deposit_5 : decode b_K_deposit 5 = .ok (.invokestatic 42, 3) := by decide +kernel
theorem d_K_deposit_8 : decode b_K_deposit 8 = .ok (.dload_n 2, 1) := by decide +kernel
theorem d_K_deposit_9 : decode b_K_deposit 9 = .ok (.invokestatic 50, 3) := by decide +kernel
theorem d_K_deposit_12 : decode b_K_deposit 12 = .ok (.aload_n 0, 1) := by decide +kernel
theorem d_K_deposit_13 : decode b_K_deposit 13 = .ok (.getfield 15, 3) := by decide +kernel
theorem d_K_deposit_16 : decode b_K_deposit 16 = .ok (.iload_n 1, 1) := by decide +kernel
theorem d_K_deposit_17 : decode b_K_deposit 17 = .ok (.aaload, 1) := by decide +kernel
theorem d_K_deposit_18 : decode b_K_deposit 18 = .ok (.dup, 1) := by decide +kernel
theorem d_K_deposit_19 : decode b_K_deposit 19 = .ok (.getfield 53, 3) := by decide +kernel
theorem d_K_deposit_22 : decode b_K_deposit 22 = .ok (.dload_n 2, 1) := by decide +kernel
theorem d_K_deposit_23 : decode b_K_deposit 23 = .ok (.dadd, 1) := by decide +kernel
theorem d_K_deposit_24 : decode b_K_deposit 24 = .ok (.putfield 53, 3) := by decide +kernel
theorem d_K_deposit_27 : decode b_K_deposit 27 = .ok (.aload_n 0, 1) := by decide +kernel
theorem d_K_deposit_28 : decode b_K_deposit 28 = .ok (.getfield 15, 3) := by decide +kernel
theorem d_K_deposit_31 : decode b_K_deposit 31 = .ok (.iload_n 1, 1) := by decide +kernel
theorem d_K_deposit_32 : decode b_K_deposit 32 = .ok (.aaload, 1) := by decide +kernel
theorem d_K_deposit_33 : decode b_K_deposit 33 = .ok (.getfield 53, 3) := by decide +kernel
theorem d_K_deposit_36 : decode b_K_deposit 36 = .ok (.dreturn, 1) := by decide +kernel
theorem d_K_contact_0 : decode b_K_contact 0 = .ok (.iload_n 1, 1) := by decide +kernel
theorem d_K_contact_1 : decode b_K_contact 1 = .ok (.invokestatic 46, 3) := by decide +kernel
theorem d_K_contact_4 : decode b_K_contact 4 = .ok (.aload_n 0, 1) := by decide +kernel
theorem d_K_contact_5 : decode b_K_contact 5 = .ok (.getfield 22, 3) := by decide +kernel
theorem d_K_contact_8 : decode b_K_contact 8 = .ok (.iconst 0, 1) := by decide +kernel
theorem d_K_contact_9 : decode b_K_contact 9 = .ok (.aaload, 1) := by decide +kernel
theorem d_K_contact_10 : decode b_K_contact 10 = .ok (.invokestatic 57, 3) := by decide +kernel
theorem d_K_contact_13 : decode b_K_contact 13 = .ok (.aload_n 0, 1) := by decide +kernel
theorem d_K_contact_14 : decode b_K_contact 14 = .ok (.getfield 22, 3) := by decide +kernel
theorem d_K_contact_17 : decode b_K_contact 17 = .ok (.iconst 0, 1) := by decide +kernel
theorem d_K_contact_18 : decode b_K_contact 18 = .ok (.aaload, 1) := by decide +kernel
theorem d_K_contact_19 : decode b_K_contact 19 = .ok (.iload_n 1, 1) := by decide +kernel
theorem d_K_contact_20 : decode b_K_contact 20 = .ok (.iconst (-1), 1) := by decide +kernel
theorem d_K_contact_21 : decode b_K_contact 21 = .ok (.iconst 0, 1) := by decide +kernel
theorem d_K_contact_22 : decode b_K_contact 22 = .ok (.invokevirtual 61, 3) := by decide +kernel
theorem d_K_contact_25 : decode b_K_contact 25 = .ok (.ireturn, 1) := by decide +kernel
theorem d_K_host_0 : decode b_K_host 0 = .ok (.iload_n 1, 1) := by decide +kernel
theorem d_K_host_1 : decode b_K_host 1 = .ok (.invokestatic 46, 3) := by decide +kernel
theorem d_K_host_4 : decode b_K_host 4 = .ok (.iload_n 2, 1) := by decide +kernel
theorem d_K_host_5 : decode b_K_host 5 = .ok (.iconst (-1), 1) := by decide +kernel
theorem d_K_host_6 : decode b_K_host 6 = .ok (.bipush 9, 2) := by decide +kernel
theorem d_K_host_8 : decode b_K_host 8 = .ok (.invokestatic 38, 3) := by decide +kernel
theorem d_K_host_11 : decode b_K_host 11 = .ok (.iload_n 2, 1) := by decide +kernel
theorem d_K_host_12 : decode b_K_host 12 = .ok (.iconst (-1), 1) := by decide +kernel
theorem d_K_host_13 : decode b_K_host 13 = .ok (.if_icmp .ne 12, 3) := by decide +kernel
theorem d_K_host_16 : decode b_K_host 16 = .ok (.iload_n 3, 1) := by decide +kernel
theorem d_K_host_17 : decode b_K_host 17 = .ok (.iconst 0, 1) := by decide +kernel
theorem d_K_host_18 : decode b_K_host 18 = .ok (.iconst 0, 1) := by decide +kernel
theorem d_K_host_19 : decode b_K_host 19 = .ok (.invokestatic 38, 3) := by decide +kernel
theorem d_K_host_22 : decode b_K_host 22 = .ok (.goto 23, 3) := by decide +kernel
theorem d_K_host_25 : decode b_K_host 25 = .ok (.iload_n 3, 1) := by decide +kernel
theorem d_K_host_26 : decode b_K_host 26 = .ok (.iconst 1, 1) := by decide +kernel
theorem d_K_host_27 : decode b_K_host 27 = .ok (.sipush 999, 3) := by decide +kernel
theorem d_K_host_30 : decode b_K_host 30 = .ok (.invokestatic 38, 3) := by decide +kernel
theorem d_K_host_33 : decode b_K_host 33 = .ok (.aload_n 0, 1) := by decide +kernel
theorem d_K_host_34 : decode b_K_host 34 = .ok (.iload_n 2, 1) := by decide +kernel
theorem d_K_host_35 : decode b_K_host 35 = .ok (.invokevirtual 65, 3) := by decide +kernel
theorem d_K_host_38 : decode b_K_host 38 = .ok (.getfield 69, 3) := by decide +kernel
theorem d_K_host_41 : decode b_K_host 41 = .ok (.iload_n 1, 1) := by decide +kernel
theorem d_K_host_42 : decode b_K_host 42 = .ok (.invokestatic 72, 3) := by decide +kernel
theorem d_K_host_45 : decode b_K_host 45 = .ok (.aload_n 0, 1) := by decide +kernel
theorem d_K_host_46 : decode b_K_host 46 = .ok (.getfield 22, 3) := by decide +kernel
theorem d_K_host_49 : decode b_K_host 49 = .ok (.iconst 1, 1) := by decide +kernel
theorem d_K_host_50 : decode b_K_host 50 = .ok (.aaload, 1) := by decide +kernel
theorem d_K_host_51 : decode b_K_host 51 = .ok (.invokestatic 57, 3) := by decide +kernel
theorem d_K_host_54 : decode b_K_host 54 = .ok (.aload_n 0, 1) := by decide +kernel
theorem d_K_host_55 : decode b_K_host 55 = .ok (.getfield 22, 3) := by decide +kernel
theorem d_K_host_58 : decode b_K_host 58 = .ok (.iconst 1, 1) := by decide +kernel
theorem d_K_host_59 : decode b_K_host 59 = .ok (.aaload, 1) := by decide +kernel
theorem d_K_host_60 : decode b_K_host 60 = .ok (.iload_n 1, 1) := by decide +kernel
theorem d_K_host_61 : decode b_K_host 61 = .ok (.iload_n 2, 1) := by decide +kernel
theorem d_K_host_62 : decode b_K_host 62 = .ok (.iload_n 3, 1) := by decide +kernel
theorem d_K_host_63 : decode b_K_host 63 = .ok (.invokevirtual 61, 3) := by decide +kernel
theorem d_K_host_66 : decode b_K_host 66 = .ok (.ireturn, 1) := by decide +kernel
theorem d_K_remove_0 : decode b_K_remove 0 = .ok (.iload_n 1, 1) := by decide +kernel
theorem d_K_remove_1 : decode b_K_remove 1 = .ok (.invokestatic 46, 3) := by decide +kernel
theorem d_K_remove_4 : decode b_K_remove 4 = .ok (.iload_n 2, 1) := by decide +kernel
theorem d_K_remove_5 : decode b_K_remove 5 = .ok (.iconst 0, 1) := by decide +kernel
theorem d_K_remove_6 : decode b_K_remove 6 = .ok (.iconst 1, 1) := by decide +kernel
theorem d_K_remove_7 : decode b_K_remove 7 = .ok (.invokestatic 38, 3) := by decide +kernel
theorem d_K_remove_10 : decode b_K_remove 10 = .ok (.aload_n 0, 1) := by decide +kernel
theorem d_K_remove_11 : decode b_K_remove 11 = .ok (.iload_n 2, 1) := by decide +kernel
theorem d_K_remove_12 : decode b_K_remove 12 = .ok (.iload_n 3, 1) := by decide +kernel
theorem d_K_remove_13 : decode b_K_remove 13 = .ok (.invokevirtual 76, 3) := by decide +kernel
theorem d_K_remove_16 : decode b_K_remove 16 = .ok (.astore 4, 2) := by decide +kernel
theorem d_K_remove_18 : decode b_K_remove 18 = .ok (.aload 4, 2) := by decide +kernel
theorem d_K_remove_20 : decode b_K_remove 20 = .ok (.getfield 80, 3) := by decide +kernel
theorem d_K_remove_23 : decode b_K_remove 23 = .ok (.iload_n 1, 1) := by decide +kernel
theorem d_K_remove_24 : decode b_K_remove 24 = .ok (.invokestatic 72, 3) := by decide +kernel
theorem d_K_remove_27 : decode b_K_remove 27 = .ok (.aload_n 0, 1) := by decide +kernel
theorem d_K_remove_28 : decode b_K_remove 28 = .ok (.iload_n 2, 1) := by decide +kernel
theorem d_K_remove_29 : decode b_K_remove 29 = .ok (.iload_n 3, 1) := by decide +kernel
theorem d_K_remove_30 : decode b_K_remove 30 = .ok (.invokevirtual 83, 3) := by decide +kernel
theorem d_K_remove_33 : decode b_K_remove 33 = .ok (.ifCond .le 13, 3) := by decide +kernel
theorem d_K_remove_36 : decode b_K_remove 36 = .ok (.new 87, 3) := by decide +kernel
theorem d_K_remove_39 : decode b_K_remove 39 = .ok (.dup, 1) := by decide +kernel
theorem d_K_remove_40 : decode b_K_remove 40 = .ok (.ldc 89, 2) := by decide +kernel
theorem d_K_remove_42 : decode b_K_remove 42 = .ok (.invokespecial 91, 3) := by decide +kernel
theorem d_K_remove_45 : decode b_K_remove 45 = .ok (.athrow, 1) := by decide +kernel
theorem d_K_remove_46 : decode b_K_remove 46 = .ok (.aload 4, 2) := by decide +kernel
theorem d_K_remove_48 : decode b_K_remove 48 = .ok (.iconst 0, 1) := by decide +kernel
theorem d_K_remove_49 : decode b_K_remove 49 = .ok (.putfield 94, 3) := by decide +kernel
theorem d_K_remove_52 : decode b_K_remove 52 = .ok (.aload_n 0, 1) := by decide +kernel
theorem d_K_remove_53 : decode b_K_remove 53 = .ok (.getfield 22, 3) := by decide +kernel
theorem d_K_remove_56 : decode b_K_remove 56 = .ok (.iload_n 2, 1) := by decide +kernel
theorem d_K_remove_57 : decode b_K_remove 57 = .ok (.aaload, 1) := by decide +kernel
theorem d_K_remove_58 : decode b_K_remove 58 = .ok (.invokevirtual 98, 3) := by decide +kernel
theorem d_K_remove_61 : decode b_K_remove 61 = .ok (.ireturn, 1) := by decide +kernel
theorem d_K_create_0 : decode b_K_create 0 = .ok (.iload_n 1, 1) := by decide +kernel
theorem d_K_create_1 : decode b_K_create 1 = .ok (.invokestatic 46, 3) := by decide +kernel
theorem d_K_create_4 : decode b_K_create 4 = .ok (.iload_n 2, 1) := by decide +kernel
theorem d_K_create_5 : decode b_K_create 5 = .ok (.invokestatic 102, 3) := by decide +kernel
theorem d_K_create_8 : decode b_K_create 8 = .ok (.iload_n 3, 1) := by decide +kernel
theorem d_K_create_9 : decode b_K_create 9 = .ok (.iconst 1, 1) := by decide +kernel
theorem d_K_create_10 : decode b_K_create 10 = .ok (.iconst 3, 1) := by decide +kernel
theorem d_K_create_11 : decode b_K_create 11 = .ok (.invokestatic 38, 3) := by decide +kernel
theorem d_K_create_14 : decode b_K_create 14 = .ok (.iload 4, 2) := by decide +kernel
theorem d_K_create_16 : decode b_K_create 16 = .ok (.iconst 0, 1) := by decide +kernel
theorem d_K_create_17 : decode b_K_create 17 = .ok (.bipush 99, 2) := by decide +kernel
theorem d_K_create_19 : decode b_K_create 19 = .ok (.invokestatic 38, 3) := by decide +kernel
theorem d_K_create_22 : decode b_K_create 22 = .ok (.aload_n 0, 1) := by decide +kernel
theorem d_K_create_23 : decode b_K_create 23 = .ok (.iconst 0, 1) := by decide +kernel
theorem d_K_create_24 : decode b_K_create 24 = .ok (.iload 5, 2) := by decide +kernel
theorem d_K_create_26 : decode b_K_create 26 = .ok (.invokevirtual 76, 3) := by decide +kernel
theorem d_K_create_29 : decode b_K_create 29 = .ok (.pop, 1) := by decide +kernel
theorem d_K_create_30 : decode b_K_create 30 = .ok (.aload_n 0, 1) := by decide +kernel
theorem d_K_create_31 : decode b_K_create 31 = .ok (.getfield 29, 3) := by decide +kernel
theorem d_K_create_34 : decode b_K_create 34 = .ok (.iload_n 2, 1) := by decide +kernel
theorem d_K_create_35 : decode b_K_create 35 = .ok (.aaload, 1) := by decide +kernel
theorem d_K_create_36 : decode b_K_create 36 = .ok (.astore 6, 2) := by decide +kernel
theorem d_K_create_38 : decode b_K_create 38 = .ok (.aload 6, 2) := by decide +kernel
theorem d_K_create_40 : decode b_K_create 40 = .ok (.getfield 105, 3) := by decide +kernel
theorem d_K_create_43 : decode b_K_create 43 = .ok (.ifCond .eq 13, 3) := by decide +kernel
theorem d_K_create_46 : decode b_K_create 46 = .ok (.new 87, 3) := by decide +kernel
theorem d_K_create_49 : decode b_K_create 49 = .ok (.dup, 1) := by decide +kernel
theorem d_K_create_50 : decode b_K_create 50 = .ok (.ldc 106, 2) := by decide +kernel
theorem d_K_create_52 : decode b_K_create 52 = .ok (.invokespecial 91, 3) := by decide +kernel
theorem d_K_create_55 : decode b_K_create 55 = .ok (.athrow, 1) := by decide +kernel
theorem d_K_create_56 : decode b_K_create 56 = .ok (.aload_n 0, 1) := by decide +kernel
theorem d_K_create_57 : decode b_K_create 57 = .ok (.iload_n 1, 1) := by decide +kernel
theorem d_K_create_58 : decode b_K_create 58 = .ok (.iconst 0, 1) := by decide +kernel
theorem d_K_create_59 : decode b_K_create 59 = .ok (.iload_n 3, 1) := by decide +kernel
theorem d_K_create_60 : decode b_K_create 60 = .ok (.invokevirtual 108, 3) := by decide +kernel
theorem d_K_create_63 : decode b_K_create 63 = .ok (.dstore 7, 2) := by decide +kernel
theorem d_K_create_65 : decode b_K_create 65 = .ok (.aload 6, 2) := by decide +kernel
theorem d_K_create_67 : decode b_K_create 67 = .ok (.iload_n 1, 1) := by decide +kernel
theorem d_K_create_68 : decode b_K_create 68 = .ok (.aload_n 0, 1) := by decide +kernel
theorem d_K_create_69 : decode b_K_create 69 = .ok (.getfield 34, 3) := by decide +kernel
theorem d_K_create_72 : decode b_K_create 72 = .ok (.iload_n 3, 1) := by decide +kernel
theorem d_K_create_73 : decode b_K_create 73 = .ok (.bipush 10, 2) := by decide +kernel
theorem d_K_create_75 : decode b_K_create 75 = .ok (.imul, 1) := by decide +kernel
theorem d_K_create_76 : decode b_K_create 76 = .ok (.iadd, 1) := by decide +kernel
theorem d_K_create_77 : decode b_K_create 77 = .ok (.iload 4, 2) := by decide +kernel
theorem d_K_create_79 : decode b_K_create 79 = .ok (.iload 5, 2) := by decide +kernel
theorem d_K_create_81 : decode b_K_create 81 = .ok (.invokevirtual 112, 3) := by decide +kernel
theorem d_K_create_84 : decode b_K_create 84 = .ok (.aload 6, 2) := by decide +kernel
theorem d_K_create_86 : decode b_K_create 86 = .ok (.iconst 0, 1) := by decide +kernel
theorem d_K_create_87 : decode b_K_create 87 = .ok (.dload 7, 2) := by decide +kernel
theorem d_K_create_89 : decode b_K_create 89 = .ok (.aload_n 0, 1) := by decide +kernel
theorem d_K_create_90 : decode b_K_create 90 = .ok (.getfield 34, 3) := by decide +kernel
theorem d_K_create_93 : decode b_K_create 93 = .ok (.iconst 3, 1) := by decide +kernel
theorem d_K_create_94 : decode b_K_create 94 = .ok (.iadd, 1) := by decide +kernel
theorem d_K_create_95 : decode b_K_create 95 = .ok (.invokevirtual 116, 3) := by decide +kernel
theorem d_K_create_98 : decode b_K_create 98 = .ok (.aload 6, 2) := by decide +kernel
theorem d_K_create_100 : decode b_K_create 100 = .ok (.getfield 120, 3) := by decide +kernel
theorem d_K_create_103 : decode b_K_create 103 = .ok (.ireturn, 1) := by decide +kernel
theorem d_K_change_0 : decode b_K_change 0 = .ok (.iload_n 1, 1) := by decide +kernel
theorem d_K_change_1 : decode b_K_change 1 = .ok (.invokestatic 46, 3) := by decide +kernel
theorem d_K_change_4 : decode b_K_change 4 = .ok (.iload_n 2, 1) := by decide +kernel
theorem d_K_change_5 : decode b_K_change 5 = .ok (.invokestatic 102, 3) := by decide +kernel
theorem d_K_change_8 : decode b_K_change 8 = .ok (.iload_n 3, 1) := by decide +kernel
theorem d_K_change_9 : decode b_K_change 9 = .ok (.iconst 0, 1) := by decide +kernel
theorem d_K_change_10 : decode b_K_change 10 = .ok (.iconst 1, 1) := by decide +kernel
theorem d_K_change_11 : decode b_K_change 11 = .ok (.invokestatic 38, 3) := by decide +kernel
theorem d_K_change_14 : decode b_K_change 14 = .ok (.aload_n 0, 1) := by decide +kernel
theorem d_K_change_15 : decode b_K_change 15 = .ok (.iload_n 2, 1) := by decide +kernel
theorem d_K_change_16 : decode b_K_change 16 = .ok (.invokevirtual 65, 3) := by decide +kernel
theorem d_K_change_19 : decode b_K_change 19 = .ok (.astore 6, 2) := by decide +kernel
theorem d_K_change_21 : decode b_K_change 21 = .ok (.aload_n 0, 1) := by decide +kernel
theorem d_K_change_22 : decode b_K_change 22 = .ok (.iload_n 3, 1) := by decide +kernel
theorem d_K_change_23 : decode b_K_change 23 = .ok (.iload 4, 2) := by decide +kernel
theorem d_K_change_25 : decode b_K_change 25 = .ok (.invokevirtual 76, 3) := by decide +kernel
theorem d_K_change_28 : decode b_K_change 28 = .ok (.pop, 1) := by decide +kernel
theorem d_K_change_29 : decode b_K_change 29 = .ok (.aload 6, 2) := by decide +kernel
theorem d_K_change_31 : decode b_K_change 31 = .ok (.getfield 69, 3) := by decide +kernel
theorem d_K_change_34 : decode b_K_change 34 = .ok (.iload_n 1, 1) := by decide +kernel
theorem d_K_change_35 : decode b_K_change 35 = .ok (.invokestatic 72, 3) := by decide +kernel
theorem d_K_change_38 : decode b_K_change 38 = .ok (.aload 6, 2) := by decide +kernel
theorem d_K_change_40 : decode b_K_change 40 = .ok (.iconst 0, 1) := by decide +kernel
theorem d_K_change_41 : decode b_K_change 41 = .ok (.invokestatic 123, 3) := by decide +kernel
theorem d_K_change_44 : decode b_K_change 44 = .ok (.aload 6, 2) := by decide +kernel
theorem d_K_change_46 : decode b_K_change 46 = .ok (.iconst 1, 1) := by decide +kernel
theorem d_K_change_47 : decode b_K_change 47 = .ok (.invokestatic 127, 3) := by decide +kernel
theorem d_K_change_50 : decode b_K_change 50 = .ok (.aload 6, 2) := by decide +kernel
theorem d_K_change_52 : decode b_K_change 52 = .ok (.getfield 130, 3) := by decide +kernel
theorem d_K_change_55 : decode b_K_change 55 = .ok (.iload_n 3, 1) := by decide +kernel
theorem d_K_change_56 : decode b_K_change 56 = .ok (.aaload, 1) := by decide +kernel
theorem d_K_change_57 : decode b_K_change 57 = .ok (.astore 7, 2) := by decide +kernel
theorem d_K_change_59 : decode b_K_change 59 = .ok (.iload 5, 2) := by decide +kernel
theorem d_K_change_61 : decode b_K_change 61 = .ok (.ifCond .eq 20, 3) := by decide +kernel
theorem d_K_change_64 : decode b_K_change 64 = .ok (.aload 7, 2) := by decide +kernel
theorem d_K_change_66 : decode b_K_change 66 = .ok (.iload 4, 2) := by decide +kernel
theorem d_K_change_68 : decode b_K_change 68 = .ok (.invokestatic 134, 3) := by decide +kernel
theorem d_K_change_71 : decode b_K_change 71 = .ok (.aload 7, 2) := by decide +kernel
theorem d_K_change_73 : decode b_K_change 73 = .ok (.iload 4, 2) := by decide +kernel
theorem d_K_change_75 : decode b_K_change 75 = .ok (.invokevirtual 138, 3) := by decide +kernel
theorem d_K_change_78 : decode b_K_change 78 = .ok (.goto 26, 3) := by decide +kernel
theorem d_K_change_81 : decode b_K_change 81 = .ok (.aload 7, 2) := by decide +kernel
theorem d_K_change_83 : decode b_K_change 83 = .ok (.iload 4, 2) := by decide +kernel
theorem d_K_change_85 : decode b_K_change 85 = .ok (.iload_n 3, 1) := by decide +kernel
theorem d_K_change_86 : decode b_K_change 86 = .ok (.ifCond .ne 7, 3) := by decide +kernel
theorem d_K_change_89 : decode b_K_change 89 = .ok (.iconst 1, 1) := by decide +kernel
theorem d_K_change_90 : decode b_K_change 90 = .ok (.goto 4, 3) := by decide +kernel
theorem d_K_change_93 : decode b_K_change 93 = .ok (.iconst 0, 1) := by decide +kernel
theorem d_K_change_94 : decode b_K_change 94 = .ok (.invokestatic 143, 3) := by decide +kernel
theorem d_K_change_97 : decode b_K_change 97 = .ok (.aload 7, 2) := by decide +kernel
theorem d_K_change_99 : decode b_K_change 99 = .ok (.iload 4, 2) := by decide +kernel
theorem d_K_change_101 : decode b_K_change 101 = .ok (.invokevirtual 147, 3) := by decide +kernel
theorem d_K_change_104 : decode b_K_change 104 = .ok (.aload 7, 2) := by decide +kernel
theorem d_K_change_106 : decode b_K_change 106 = .ok (.getfield 150, 3) := by decide +kernel
theorem d_K_change_109 : decode b_K_change 109 = .ok (.ireturn, 1) := by decide +kernel
