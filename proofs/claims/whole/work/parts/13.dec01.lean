theorem d_K_lock_0 : decode b_K_lock 0 = .ok (.iload_n 1, 1) := by decide +kernel
theorem d_K_lock_1 : decode b_K_lock 1 = .ok (.invokestatic 46, 3) := by decide +kernel
theorem d_K_lock_4 : decode b_K_lock 4 = .ok (.iload_n 2, 1) := by decide +kernel
theorem d_K_lock_5 : decode b_K_lock 5 = .ok (.invokestatic 102, 3) := by decide +kernel
theorem d_K_lock_8 : decode b_K_lock 8 = .ok (.iload_n 3, 1) := by decide +kernel
theorem d_K_lock_9 : decode b_K_lock 9 = .ok (.iconst 0, 1) := by decide +kernel
theorem d_K_lock_10 : decode b_K_lock 10 = .ok (.bipush 31, 2) := by decide +kernel
theorem d_K_lock_12 : decode b_K_lock 12 = .ok (.invokestatic 38, 3) := by decide +kernel
theorem d_K_lock_15 : decode b_K_lock 15 = .ok (.aload_n 0, 1) := by decide +kernel
theorem d_K_lock_16 : decode b_K_lock 16 = .ok (.iload_n 2, 1) := by decide +kernel
theorem d_K_lock_17 : decode b_K_lock 17 = .ok (.invokevirtual 65, 3) := by decide +kernel
theorem d_K_lock_20 : decode b_K_lock 20 = .ok (.astore 4, 2) := by decide +kernel
theorem d_K_lock_22 : decode b_K_lock 22 = .ok (.aload 4, 2) := by decide +kernel
theorem d_K_lock_24 : decode b_K_lock 24 = .ok (.getfield 69, 3) := by decide +kernel
theorem d_K_lock_27 : decode b_K_lock 27 = .ok (.iload_n 1, 1) := by decide +kernel
theorem d_K_lock_28 : decode b_K_lock 28 = .ok (.invokestatic 72, 3) := by decide +kernel
theorem d_K_lock_31 : decode b_K_lock 31 = .ok (.aload 4, 2) := by decide +kernel
theorem d_K_lock_33 : decode b_K_lock 33 = .ok (.iconst 0, 1) := by decide +kernel
theorem d_K_lock_34 : decode b_K_lock 34 = .ok (.invokestatic 123, 3) := by decide +kernel
theorem d_K_lock_37 : decode b_K_lock 37 = .ok (.aload 4, 2) := by decide +kernel
theorem d_K_lock_39 : decode b_K_lock 39 = .ok (.getfield 153, 3) := by decide +kernel
theorem d_K_lock_42 : decode b_K_lock 42 = .ok (.istore 5, 2) := by decide +kernel
theorem d_K_lock_44 : decode b_K_lock 44 = .ok (.aload 4, 2) := by decide +kernel
theorem d_K_lock_46 : decode b_K_lock 46 = .ok (.iload_n 3, 1) := by decide +kernel
theorem d_K_lock_47 : decode b_K_lock 47 = .ok (.putfield 153, 3) := by decide +kernel
theorem d_K_lock_50 : decode b_K_lock 50 = .ok (.iload 5, 2) := by decide +kernel
theorem d_K_lock_52 : decode b_K_lock 52 = .ok (.ireturn, 1) := by decide +kernel
theorem d_K_renew_0 : decode b_K_renew 0 = .ok (.iload_n 1, 1) := by decide +kernel
theorem d_K_renew_1 : decode b_K_renew 1 = .ok (.invokestatic 46, 3) := by decide +kernel
theorem d_K_renew_4 : decode b_K_renew 4 = .ok (.iload_n 2, 1) := by decide +kernel
theorem d_K_renew_5 : decode b_K_renew 5 = .ok (.invokestatic 102, 3) := by decide +kernel
theorem d_K_renew_8 : decode b_K_renew 8 = .ok (.iload_n 3, 1) := by decide +kernel
theorem d_K_renew_9 : decode b_K_renew 9 = .ok (.iconst 1, 1) := by decide +kernel
theorem d_K_renew_10 : decode b_K_renew 10 = .ok (.iconst 3, 1) := by decide +kernel
theorem d_K_renew_11 : decode b_K_renew 11 = .ok (.invokestatic 38, 3) := by decide +kernel
theorem d_K_renew_14 : decode b_K_renew 14 = .ok (.aload_n 0, 1) := by decide +kernel
theorem d_K_renew_15 : decode b_K_renew 15 = .ok (.iload_n 2, 1) := by decide +kernel
theorem d_K_renew_16 : decode b_K_renew 16 = .ok (.invokevirtual 65, 3) := by decide +kernel
theorem d_K_renew_19 : decode b_K_renew 19 = .ok (.astore 4, 2) := by decide +kernel
theorem d_K_renew_21 : decode b_K_renew 21 = .ok (.aload 4, 2) := by decide +kernel
theorem d_K_renew_23 : decode b_K_renew 23 = .ok (.getfield 69, 3) := by decide +kernel
theorem d_K_renew_26 : decode b_K_renew 26 = .ok (.iload_n 1, 1) := by decide +kernel
theorem d_K_renew_27 : decode b_K_renew 27 = .ok (.invokestatic 72, 3) := by decide +kernel
theorem d_K_renew_30 : decode b_K_renew 30 = .ok (.aload 4, 2) := by decide +kernel
theorem d_K_renew_32 : decode b_K_renew 32 = .ok (.iconst 0, 1) := by decide +kernel
theorem d_K_renew_33 : decode b_K_renew 33 = .ok (.invokestatic 123, 3) := by decide +kernel
theorem d_K_renew_36 : decode b_K_renew 36 = .ok (.aload 4, 2) := by decide +kernel
theorem d_K_renew_38 : decode b_K_renew 38 = .ok (.bipush 8, 2) := by decide +kernel
theorem d_K_renew_40 : decode b_K_renew 40 = .ok (.invokestatic 127, 3) := by decide +kernel
theorem d_K_renew_43 : decode b_K_renew 43 = .ok (.aload 4, 2) := by decide +kernel
theorem d_K_renew_45 : decode b_K_renew 45 = .ok (.invokestatic 156, 3) := by decide +kernel
theorem d_K_renew_48 : decode b_K_renew 48 = .ok (.aload 4, 2) := by decide +kernel
theorem d_K_renew_50 : decode b_K_renew 50 = .ok (.getfield 120, 3) := by decide +kernel
theorem d_K_renew_53 : decode b_K_renew 53 = .ok (.iload_n 3, 1) := by decide +kernel
theorem d_K_renew_54 : decode b_K_renew 54 = .ok (.bipush 10, 2) := by decide +kernel
theorem d_K_renew_56 : decode b_K_renew 56 = .ok (.imul, 1) := by decide +kernel
theorem d_K_renew_57 : decode b_K_renew 57 = .ok (.iadd, 1) := by decide +kernel
theorem d_K_renew_58 : decode b_K_renew 58 = .ok (.istore 5, 2) := by decide +kernel
theorem d_K_renew_60 : decode b_K_renew 60 = .ok (.iload 5, 2) := by decide +kernel
theorem d_K_renew_62 : decode b_K_renew 62 = .ok (.aload_n 0, 1) := by decide +kernel
theorem d_K_renew_63 : decode b_K_renew 63 = .ok (.getfield 34, 3) := by decide +kernel
theorem d_K_renew_66 : decode b_K_renew 66 = .ok (.bipush 50, 2) := by decide +kernel
theorem d_K_renew_68 : decode b_K_renew 68 = .ok (.iadd, 1) := by decide +kernel
theorem d_K_renew_69 : decode b_K_renew 69 = .ok (.if_icmp .le 13, 3) := by decide +kernel
theorem d_K_renew_72 : decode b_K_renew 72 = .ok (.new 87, 3) := by decide +kernel
theorem d_K_renew_75 : decode b_K_renew 75 = .ok (.dup, 1) := by decide +kernel
theorem d_K_renew_76 : decode b_K_renew 76 = .ok (.ldc 160, 2) := by decide +kernel
theorem d_K_renew_78 : decode b_K_renew 78 = .ok (.invokespecial 91, 3) := by decide +kernel
theorem d_K_renew_81 : decode b_K_renew 81 = .ok (.athrow, 1) := by decide +kernel
theorem d_K_renew_82 : decode b_K_renew 82 = .ok (.aload_n 0, 1) := by decide +kernel
theorem d_K_renew_83 : decode b_K_renew 83 = .ok (.iload_n 1, 1) := by decide +kernel
theorem d_K_renew_84 : decode b_K_renew 84 = .ok (.iconst 1, 1) := by decide +kernel
theorem d_K_renew_85 : decode b_K_renew 85 = .ok (.iload_n 3, 1) := by decide +kernel
theorem d_K_renew_86 : decode b_K_renew 86 = .ok (.invokevirtual 108, 3) := by decide +kernel
theorem d_K_renew_89 : decode b_K_renew 89 = .ok (.dstore 6, 2) := by decide +kernel
theorem d_K_renew_91 : decode b_K_renew 91 = .ok (.aload 4, 2) := by decide +kernel
theorem d_K_renew_93 : decode b_K_renew 93 = .ok (.iload 5, 2) := by decide +kernel
theorem d_K_renew_95 : decode b_K_renew 95 = .ok (.putfield 120, 3) := by decide +kernel
theorem d_K_renew_98 : decode b_K_renew 98 = .ok (.aload 4, 2) := by decide +kernel
theorem d_K_renew_100 : decode b_K_renew 100 = .ok (.iconst 1, 1) := by decide +kernel
theorem d_K_renew_101 : decode b_K_renew 101 = .ok (.dload 6, 2) := by decide +kernel
theorem d_K_renew_103 : decode b_K_renew 103 = .ok (.aload_n 0, 1) := by decide +kernel
theorem d_K_renew_104 : decode b_K_renew 104 = .ok (.getfield 34, 3) := by decide +kernel
theorem d_K_renew_107 : decode b_K_renew 107 = .ok (.iconst 3, 1) := by decide +kernel
theorem d_K_renew_108 : decode b_K_renew 108 = .ok (.iadd, 1) := by decide +kernel
theorem d_K_renew_109 : decode b_K_renew 109 = .ok (.invokevirtual 116, 3) := by decide +kernel
theorem d_K_renew_112 : decode b_K_renew 112 = .ok (.iload 5, 2) := by decide +kernel
theorem d_K_renew_114 : decode b_K_renew 114 = .ok (.ireturn, 1) := by decide +kernel
theorem d_K_delete_0 : decode b_K_delete 0 = .ok (.iload_n 1, 1) := by decide +kernel
theorem d_K_delete_1 : decode b_K_delete 1 = .ok (.invokestatic 46, 3) := by decide +kernel
theorem d_K_delete_4 : decode b_K_delete 4 = .ok (.iload_n 2, 1) := by decide +kernel
theorem d_K_delete_5 : decode b_K_delete 5 = .ok (.invokestatic 102, 3) := by decide +kernel
theorem d_K_delete_8 : decode b_K_delete 8 = .ok (.aload_n 0, 1) := by decide +kernel
theorem d_K_delete_9 : decode b_K_delete 9 = .ok (.iload_n 2, 1) := by decide +kernel
theorem d_K_delete_10 : decode b_K_delete 10 = .ok (.invokevirtual 65, 3) := by decide +kernel
theorem d_K_delete_13 : decode b_K_delete 13 = .ok (.astore_n 3, 1) := by decide +kernel
theorem d_K_delete_14 : decode b_K_delete 14 = .ok (.aload_n 3, 1) := by decide +kernel
theorem d_K_delete_15 : decode b_K_delete 15 = .ok (.getfield 69, 3) := by decide +kernel
theorem d_K_delete_18 : decode b_K_delete 18 = .ok (.iload_n 1, 1) := by decide +kernel
theorem d_K_delete_19 : decode b_K_delete 19 = .ok (.invokestatic 72, 3) := by decide +kernel
theorem d_K_delete_22 : decode b_K_delete 22 = .ok (.aload_n 3, 1) := by decide +kernel
theorem d_K_delete_23 : decode b_K_delete 23 = .ok (.iconst 0, 1) := by decide +kernel
theorem d_K_delete_24 : decode b_K_delete 24 = .ok (.invokestatic 123, 3) := by decide +kernel
theorem d_K_delete_27 : decode b_K_delete 27 = .ok (.aload_n 3, 1) := by decide +kernel
theorem d_K_delete_28 : decode b_K_delete 28 = .ok (.iconst 2, 1) := by decide +kernel
theorem d_K_delete_29 : decode b_K_delete 29 = .ok (.invokestatic 127, 3) := by decide +kernel
theorem d_K_delete_32 : decode b_K_delete 32 = .ok (.aload_n 3, 1) := by decide +kernel
theorem d_K_delete_33 : decode b_K_delete 33 = .ok (.invokestatic 156, 3) := by decide +kernel
theorem d_K_delete_36 : decode b_K_delete 36 = .ok (.aload_n 0, 1) := by decide +kernel
theorem d_K_delete_37 : decode b_K_delete 37 = .ok (.iload_n 2, 1) := by decide +kernel
theorem d_K_delete_38 : decode b_K_delete 38 = .ok (.invokevirtual 162, 3) := by decide +kernel
theorem d_K_delete_41 : decode b_K_delete 41 = .ok (.ifCond .eq 13, 3) := by decide +kernel
theorem d_K_delete_44 : decode b_K_delete 44 = .ok (.new 87, 3) := by decide +kernel
theorem d_K_delete_47 : decode b_K_delete 47 = .ok (.dup, 1) := by decide +kernel
theorem d_K_delete_48 : decode b_K_delete 48 = .ok (.ldc 166, 2) := by decide +kernel
theorem d_K_delete_50 : decode b_K_delete 50 = .ok (.invokespecial 91, 3) := by decide +kernel
theorem d_K_delete_53 : decode b_K_delete 53 = .ok (.athrow, 1) := by decide +kernel
theorem d_K_delete_54 : decode b_K_delete 54 = .ok (.aload_n 0, 1) := by decide +kernel
theorem d_K_delete_55 : decode b_K_delete 55 = .ok (.getfield 15, 3) := by decide +kernel
theorem d_K_delete_58 : decode b_K_delete 58 = .ok (.iload_n 1, 1) := by decide +kernel
theorem d_K_delete_59 : decode b_K_delete 59 = .ok (.aaload, 1) := by decide +kernel
theorem d_K_delete_60 : decode b_K_delete 60 = .ok (.dup, 1) := by decide +kernel
theorem d_K_delete_61 : decode b_K_delete 61 = .ok (.getfield 53, 3) := by decide +kernel
theorem d_K_delete_64 : decode b_K_delete 64 = .ok (.aload_n 3, 1) := by decide +kernel
theorem d_K_delete_65 : decode b_K_delete 65 = .ok (.aload_n 0, 1) := by decide +kernel
theorem d_K_delete_66 : decode b_K_delete 66 = .ok (.getfield 34, 3) := by decide +kernel
theorem d_K_delete_69 : decode b_K_delete 69 = .ok (.invokevirtual 168, 3) := by decide +kernel
theorem d_K_delete_72 : decode b_K_delete 72 = .ok (.dadd, 1) := by decide +kernel
theorem d_K_delete_73 : decode b_K_delete 73 = .ok (.putfield 53, 3) := by decide +kernel
theorem d_K_delete_76 : decode b_K_delete 76 = .ok (.aload_n 3, 1) := by decide +kernel
theorem d_K_delete_77 : decode b_K_delete 77 = .ok (.iconst 0, 1) := by decide +kernel
theorem d_K_delete_78 : decode b_K_delete 78 = .ok (.aload_n 0, 1) := by decide +kernel
theorem d_K_delete_79 : decode b_K_delete 79 = .ok (.getfield 34, 3) := by decide +kernel
theorem d_K_delete_82 : decode b_K_delete 82 = .ok (.invokevirtual 172, 3) := by decide +kernel
theorem d_K_delete_85 : decode b_K_delete 85 = .ok (.ifCond .eq 10, 3) := by decide +kernel
theorem d_K_delete_88 : decode b_K_delete 88 = .ok (.aload_n 0, 1) := by decide +kernel
theorem d_K_delete_89 : decode b_K_delete 89 = .ok (.iload_n 2, 1) := by decide +kernel
theorem d_K_delete_90 : decode b_K_delete 90 = .ok (.invokevirtual 176, 3) := by decide +kernel
theorem d_K_delete_93 : decode b_K_delete 93 = .ok (.iconst 2, 1) := by decide +kernel
theorem d_K_delete_94 : decode b_K_delete 94 = .ok (.ireturn, 1) := by decide +kernel
theorem d_K_delete_95 : decode b_K_delete 95 = .ok (.aload_n 3, 1) := by decide +kernel
theorem d_K_delete_96 : decode b_K_delete 96 = .ok (.iconst 4, 1) := by decide +kernel
theorem d_K_delete_97 : decode b_K_delete 97 = .ok (.aload_n 0, 1) := by decide +kernel
theorem d_K_delete_98 : decode b_K_delete 98 = .ok (.getfield 34, 3) := by decide +kernel
theorem d_K_delete_101 : decode b_K_delete 101 = .ok (.invokevirtual 172, 3) := by decide +kernel
theorem d_K_delete_104 : decode b_K_delete 104 = .ok (.ifCond .eq 14, 3) := by decide +kernel
theorem d_K_delete_107 : decode b_K_delete 107 = .ok (.aload_n 3, 1) := by decide +kernel
theorem d_K_delete_108 : decode b_K_delete 108 = .ok (.dup, 1) := by decide +kernel
theorem d_K_delete_109 : decode b_K_delete 109 = .ok (.getfield 120, 3) := by decide +kernel
theorem d_K_delete_112 : decode b_K_delete 112 = .ok (.bipush 10, 2) := by decide +kernel
theorem d_K_delete_114 : decode b_K_delete 114 = .ok (.isub, 1) := by decide +kernel
theorem d_K_delete_115 : decode b_K_delete 115 = .ok (.putfield 120, 3) := by decide +kernel
theorem d_K_delete_118 : decode b_K_delete 118 = .ok (.aload_n 3, 1) := by decide +kernel
theorem d_K_delete_119 : decode b_K_delete 119 = .ok (.invokevirtual 179, 3) := by decide +kernel
theorem d_K_delete_122 : decode b_K_delete 122 = .ok (.aload_n 3, 1) := by decide +kernel
theorem d_K_delete_123 : decode b_K_delete 123 = .ok (.iconst 1, 1) := by decide +kernel
theorem d_K_delete_124 : decode b_K_delete 124 = .ok (.aload_n 0, 1) := by decide +kernel
theorem d_K_delete_125 : decode b_K_delete 125 = .ok (.getfield 34, 3) := by decide +kernel
theorem d_K_delete_128 : decode b_K_delete 128 = .ok (.iconst 5, 1) := by decide +kernel
theorem d_K_delete_129 : decode b_K_delete 129 = .ok (.iadd, 1) := by decide +kernel
theorem d_K_delete_130 : decode b_K_delete 130 = .ok (.invokevirtual 182, 3) := by decide +kernel
theorem d_K_delete_133 : decode b_K_delete 133 = .ok (.iconst 1, 1) := by decide +kernel
theorem d_K_delete_134 : decode b_K_delete 134 = .ok (.ireturn, 1) := by decide +kernel
theorem d_K_restore_0 : decode b_K_restore 0 = .ok (.iload_n 1, 1) := by decide +kernel
theorem d_K_restore_1 : decode b_K_restore 1 = .ok (.invokestatic 46, 3) := by decide +kernel
theorem d_K_restore_4 : decode b_K_restore 4 = .ok (.iload_n 2, 1) := by decide +kernel
theorem d_K_restore_5 : decode b_K_restore 5 = .ok (.invokestatic 102, 3) := by decide +kernel
theorem d_K_restore_8 : decode b_K_restore 8 = .ok (.aload_n 0, 1) := by decide +kernel
theorem d_K_restore_9 : decode b_K_restore 9 = .ok (.iload_n 2, 1) := by decide +kernel
theorem d_K_restore_10 : decode b_K_restore 10 = .ok (.invokevirtual 65, 3) := by decide +kernel
theorem d_K_restore_13 : decode b_K_restore 13 = .ok (.astore_n 3, 1) := by decide +kernel
theorem d_K_restore_14 : decode b_K_restore 14 = .ok (.aload_n 3, 1) := by decide +kernel
theorem d_K_restore_15 : decode b_K_restore 15 = .ok (.getfield 69, 3) := by decide +kernel
theorem d_K_restore_18 : decode b_K_restore 18 = .ok (.iload_n 1, 1) := by decide +kernel
theorem d_K_restore_19 : decode b_K_restore 19 = .ok (.invokestatic 72, 3) := by decide +kernel
theorem d_K_restore_22 : decode b_K_restore 22 = .ok (.aload_n 3, 1) := by decide +kernel
theorem d_K_restore_23 : decode b_K_restore 23 = .ok (.iconst 1, 1) := by decide +kernel
theorem d_K_restore_24 : decode b_K_restore 24 = .ok (.invokestatic 123, 3) := by decide +kernel
theorem d_K_restore_27 : decode b_K_restore 27 = .ok (.aload_n 0, 1) := by decide +kernel
theorem d_K_restore_28 : decode b_K_restore 28 = .ok (.iload_n 1, 1) := by decide +kernel
theorem d_K_restore_29 : decode b_K_restore 29 = .ok (.iconst 3, 1) := by decide +kernel
theorem d_K_restore_30 : decode b_K_restore 30 = .ok (.iconst 1, 1) := by decide +kernel
theorem d_K_restore_31 : decode b_K_restore 31 = .ok (.invokevirtual 108, 3) := by decide +kernel
theorem d_K_restore_34 : decode b_K_restore 34 = .ok (.pop2, 1) := by decide +kernel
theorem d_K_restore_35 : decode b_K_restore 35 = .ok (.aload_n 3, 1) := by decide +kernel
theorem d_K_restore_36 : decode b_K_restore 36 = .ok (.iconst 0, 1) := by decide +kernel
theorem d_K_restore_37 : decode b_K_restore 37 = .ok (.iconst (-1), 1) := by decide +kernel
theorem d_K_restore_38 : decode b_K_restore 38 = .ok (.invokevirtual 182, 3) := by decide +kernel
theorem d_K_restore_41 : decode b_K_restore 41 = .ok (.aload_n 3, 1) := by decide +kernel
theorem d_K_restore_42 : decode b_K_restore 42 = .ok (.getfield 120, 3) := by decide +kernel
theorem d_K_restore_45 : decode b_K_restore 45 = .ok (.ireturn, 1) := by decide +kernel
theorem d_K_ask_0 : decode b_K_ask 0 = .ok (.iload_n 1, 1) := by decide +kernel
theorem d_K_ask_1 : decode b_K_ask 1 = .ok (.invokestatic 46, 3) := by decide +kernel
theorem d_K_ask_4 : decode b_K_ask 4 = .ok (.iload_n 2, 1) := by decide +kernel
theorem d_K_ask_5 : decode b_K_ask 5 = .ok (.invokestatic 102, 3) := by decide +kernel
theorem d_K_ask_8 : decode b_K_ask 8 = .ok (.iload_n 3, 1) := by decide +kernel
theorem d_K_ask_9 : decode b_K_ask 9 = .ok (.iconst 0, 1) := by decide +kernel
theorem d_K_ask_10 : decode b_K_ask 10 = .ok (.bipush 99, 2) := by decide +kernel
theorem d_K_ask_12 : decode b_K_ask 12 = .ok (.invokestatic 38, 3) := by decide +kernel
theorem d_K_ask_15 : decode b_K_ask 15 = .ok (.aload_n 0, 1) := by decide +kernel
theorem d_K_ask_16 : decode b_K_ask 16 = .ok (.iload_n 2, 1) := by decide +kernel
theorem d_K_ask_17 : decode b_K_ask 17 = .ok (.invokevirtual 65, 3) := by decide +kernel
theorem d_K_ask_20 : decode b_K_ask 20 = .ok (.astore 4, 2) := by decide +kernel
theorem d_K_ask_22 : decode b_K_ask 22 = .ok (.aload 4, 2) := by decide +kernel
theorem d_K_ask_24 : decode b_K_ask 24 = .ok (.getfield 69, 3) := by decide +kernel
theorem d_K_ask_27 : decode b_K_ask 27 = .ok (.iload_n 1, 1) := by decide +kernel
theorem d_K_ask_28 : decode b_K_ask 28 = .ok (.if_icmp .eq 12, 3) := by decide +kernel
theorem d_K_ask_31 : decode b_K_ask 31 = .ok (.aload 4, 2) := by decide +kernel
theorem d_K_ask_33 : decode b_K_ask 33 = .ok (.getfield 185, 3) := by decide +kernel
theorem d_K_ask_36 : decode b_K_ask 36 = .ok (.iload_n 3, 1) := by decide +kernel
theorem d_K_ask_37 : decode b_K_ask 37 = .ok (.if_icmp .eq 13, 3) := by decide +kernel
theorem d_K_ask_40 : decode b_K_ask 40 = .ok (.new 188, 3) := by decide +kernel
theorem d_K_ask_43 : decode b_K_ask 43 = .ok (.dup, 1) := by decide +kernel
theorem d_K_ask_44 : decode b_K_ask 44 = .ok (.ldc 190, 2) := by decide +kernel
theorem d_K_ask_46 : decode b_K_ask 46 = .ok (.invokespecial 192, 3) := by decide +kernel
theorem d_K_ask_49 : decode b_K_ask 49 = .ok (.athrow, 1) := by decide +kernel
theorem d_K_ask_50 : decode b_K_ask 50 = .ok (.aload 4, 2) := by decide +kernel
theorem d_K_ask_52 : decode b_K_ask 52 = .ok (.iconst 0, 1) := by decide +kernel
theorem d_K_ask_53 : decode b_K_ask 53 = .ok (.invokestatic 123, 3) := by decide +kernel
theorem d_K_ask_56 : decode b_K_ask 56 = .ok (.aload 4, 2) := by decide +kernel
theorem d_K_ask_58 : decode b_K_ask 58 = .ok (.iconst 4, 1) := by decide +kernel
theorem d_K_ask_59 : decode b_K_ask 59 = .ok (.invokestatic 127, 3) := by decide +kernel
theorem d_K_ask_62 : decode b_K_ask 62 = .ok (.aload 4, 2) := by decide +kernel
theorem d_K_ask_64 : decode b_K_ask 64 = .ok (.invokestatic 156, 3) := by decide +kernel
theorem d_K_ask_67 : decode b_K_ask 67 = .ok (.aload 4, 2) := by decide +kernel
theorem d_K_ask_69 : decode b_K_ask 69 = .ok (.iload_n 1, 1) := by decide +kernel
theorem d_K_ask_70 : decode b_K_ask 70 = .ok (.putfield 193, 3) := by decide +kernel
theorem d_K_ask_73 : decode b_K_ask 73 = .ok (.aload 4, 2) := by decide +kernel
theorem d_K_ask_75 : decode b_K_ask 75 = .ok (.aload_n 0, 1) := by decide +kernel
theorem d_K_ask_76 : decode b_K_ask 76 = .ok (.getfield 34, 3) := by decide +kernel
theorem d_K_ask_79 : decode b_K_ask 79 = .ok (.iconst 4, 1) := by decide +kernel
theorem d_K_ask_80 : decode b_K_ask 80 = .ok (.iadd, 1) := by decide +kernel
theorem d_K_ask_81 : decode b_K_ask 81 = .ok (.putfield 196, 3) := by decide +kernel
theorem d_K_ask_84 : decode b_K_ask 84 = .ok (.aload_n 0, 1) := by decide +kernel
theorem d_K_ask_85 : decode b_K_ask 85 = .ok (.getfield 15, 3) := by decide +kernel
theorem d_K_ask_88 : decode b_K_ask 88 = .ok (.aload 4, 2) := by decide +kernel
theorem d_K_ask_90 : decode b_K_ask 90 = .ok (.getfield 69, 3) := by decide +kernel
theorem d_K_ask_93 : decode b_K_ask 93 = .ok (.aaload, 1) := by decide +kernel
theorem d_K_ask_94 : decode b_K_ask 94 = .ok (.iconst 1, 1) := by decide +kernel
theorem d_K_ask_95 : decode b_K_ask 95 = .ok (.iload_n 2, 1) := by decide +kernel
theorem d_K_ask_96 : decode b_K_ask 96 = .ok (.invokevirtual 199, 3) := by decide +kernel
theorem d_K_ask_99 : decode b_K_ask 99 = .ok (.aload 4, 2) := by decide +kernel
theorem d_K_ask_101 : decode b_K_ask 101 = .ok (.getfield 196, 3) := by decide +kernel
theorem d_K_ask_104 : decode b_K_ask 104 = .ok (.ireturn, 1) := by decide +kernel
theorem d_K_answer_0 : decode b_K_answer 0 = .ok (.iload_n 1, 1) := by decide +kernel
theorem d_K_answer_1 : decode b_K_answer 1 = .ok (.invokestatic 46, 3) := by decide +kernel
theorem d_K_answer_4 : decode b_K_answer 4 = .ok (.iload_n 2, 1) := by decide +kernel
theorem d_K_answer_5 : decode b_K_answer 5 = .ok (.invokestatic 102, 3) := by decide +kernel
theorem d_K_answer_8 : decode b_K_answer 8 = .ok (.aload_n 0, 1) := by decide +kernel
theorem d_K_answer_9 : decode b_K_answer 9 = .ok (.iload_n 2, 1) := by decide +kernel
theorem d_K_answer_10 : decode b_K_answer 10 = .ok (.invokevirtual 65, 3) := by decide +kernel
theorem d_K_answer_13 : decode b_K_answer 13 = .ok (.astore 4, 2) := by decide +kernel
theorem d_K_answer_15 : decode b_K_answer 15 = .ok (.aload 4, 2) := by decide +kernel
theorem d_K_answer_17 : decode b_K_answer 17 = .ok (.getfield 193, 3) := by decide +kernel
theorem d_K_answer_20 : decode b_K_answer 20 = .ok (.iconst (-1), 1) := by decide +kernel
theorem d_K_answer_21 : decode b_K_answer 21 = .ok (.if_icmp .ne 13, 3) := by decide +kernel
theorem d_K_answer_24 : decode b_K_answer 24 = .ok (.new 202, 3) := by decide +kernel
theorem d_K_answer_27 : decode b_K_answer 27 = .ok (.dup, 1) := by decide +kernel
theorem d_K_answer_28 : decode b_K_answer 28 = .ok (.ldc 204, 2) := by decide +kernel
theorem d_K_answer_30 : decode b_K_answer 30 = .ok (.invokespecial 206, 3) := by decide +kernel
theorem d_K_answer_33 : decode b_K_answer 33 = .ok (.athrow, 1) := by decide +kernel
theorem d_K_answer_34 : decode b_K_answer 34 = .ok (.iload_n 1, 1) := by decide +kernel
theorem d_K_answer_35 : decode b_K_answer 35 = .ok (.aload 4, 2) := by decide +kernel
theorem d_K_answer_37 : decode b_K_answer 37 = .ok (.getfield 69, 3) := by decide +kernel
theorem d_K_answer_40 : decode b_K_answer 40 = .ok (.if_icmp .eq 26, 3) := by decide +kernel
theorem d_K_answer_43 : decode b_K_answer 43 = .ok (.iload_n 3, 1) := by decide +kernel
theorem d_K_answer_44 : decode b_K_answer 44 = .ok (.ifCond .ne 12, 3) := by decide +kernel
theorem d_K_answer_47 : decode b_K_answer 47 = .ok (.iload_n 1, 1) := by decide +kernel
theorem d_K_answer_48 : decode b_K_answer 48 = .ok (.aload 4, 2) := by decide +kernel
theorem d_K_answer_50 : decode b_K_answer 50 = .ok (.getfield 193, 3) := by decide +kernel
theorem d_K_answer_53 : decode b_K_answer 53 = .ok (.if_icmp .eq 13, 3) := by decide +kernel
theorem d_K_answer_56 : decode b_K_answer 56 = .ok (.new 188, 3) := by decide +kernel
theorem d_K_answer_59 : decode b_K_answer 59 = .ok (.dup, 1) := by decide +kernel
theorem d_K_answer_60 : decode b_K_answer 60 = .ok (.ldc 207, 2) := by decide +kernel
theorem d_K_answer_62 : decode b_K_answer 62 = .ok (.invokespecial 192, 3) := by decide +kernel
theorem d_K_answer_65 : decode b_K_answer 65 = .ok (.athrow, 1) := by decide +kernel
theorem d_K_answer_66 : decode b_K_answer 66 = .ok (.iload_n 3, 1) := by decide +kernel
theorem d_K_answer_67 : decode b_K_answer 67 = .ok (.ifCond .ne 10, 3) := by decide +kernel
theorem d_K_answer_70 : decode b_K_answer 70 = .ok (.aload_n 0, 1) := by decide +kernel
theorem d_K_answer_71 : decode b_K_answer 71 = .ok (.iload_n 2, 1) := by decide +kernel
theorem d_K_answer_72 : decode b_K_answer 72 = .ok (.invokevirtual 209, 3) := by decide +kernel
theorem d_K_answer_75 : decode b_K_answer 75 = .ok (.iconst 0, 1) := by decide +kernel
theorem d_K_answer_76 : decode b_K_answer 76 = .ok (.ireturn, 1) := by decide +kernel
theorem d_K_answer_77 : decode b_K_answer 77 = .ok (.aload_n 0, 1) := by decide +kernel
theorem d_K_answer_78 : decode b_K_answer 78 = .ok (.aload 4, 2) := by decide +kernel
theorem d_K_answer_80 : decode b_K_answer 80 = .ok (.getfield 193, 3) := by decide +kernel
theorem d_K_answer_83 : decode b_K_answer 83 = .ok (.aload_n 0, 1) := by decide +kernel
theorem d_K_answer_84 : decode b_K_answer 84 = .ok (.aload 4, 2) := by decide +kernel
theorem d_K_answer_86 : decode b_K_answer 86 = .ok (.getfield 193, 3) := by decide +kernel
theorem d_K_answer_89 : decode b_K_answer 89 = .ok (.iconst 2, 1) := by decide +kernel
theorem d_K_answer_90 : decode b_K_answer 90 = .ok (.iconst 1, 1) := by decide +kernel
theorem d_K_answer_91 : decode b_K_answer 91 = .ok (.invokevirtual 212, 3) := by decide +kernel
theorem d_K_answer_94 : decode b_K_answer 94 = .ok (.invokevirtual 215, 3) := by decide +kernel
theorem d_K_answer_97 : decode b_K_answer 97 = .ok (.aload_n 0, 1) := by decide +kernel
theorem d_K_answer_98 : decode b_K_answer 98 = .ok (.iload_n 2, 1) := by decide +kernel
theorem d_K_answer_99 : decode b_K_answer 99 = .ok (.invokevirtual 219, 3) := by decide +kernel
theorem d_K_answer_102 : decode b_K_answer 102 = .ok (.iconst 1, 1) := by decide +kernel
theorem d_K_answer_103 : decode b_K_answer 103 = .ok (.ireturn, 1) := by decide +kernel
theorem d_K_pass_0 : decode b_K_pass 0 = .ok (.iload_n 1, 1) := by decide +kernel
theorem d_K_pass_1 : decode b_K_pass 1 = .ok (.iconst 1, 1) := by decide +kernel
theorem d_K_pass_2 : decode b_K_pass 2 = .ok (.bipush 20, 2) := by decide +kernel
theorem d_K_pass_4 : decode b_K_pass 4 = .ok (.invokestatic 38, 3) := by decide +kernel
theorem d_K_pass_7 : decode b_K_pass 7 = .ok (.iconst 0, 1) := by decide +kernel
theorem d_K_pass_8 : decode b_K_pass 8 = .ok (.istore_n 2, 1) := by decide +kernel
theorem d_K_pass_9 : decode b_K_pass 9 = .ok (.iload_n 2, 1) := by decide +kernel
theorem d_K_pass_10 : decode b_K_pass 10 = .ok (.iload_n 1, 1) := by decide +kernel
theorem d_K_pass_11 : decode b_K_pass 11 = .ok (.if_icmp .ge 13, 3) := by decide +kernel
theorem d_K_pass_14 : decode b_K_pass 14 = .ok (.aload_n 0, 1) := by decide +kernel
theorem d_K_pass_15 : decode b_K_pass 15 = .ok (.invokevirtual 222, 3) := by decide +kernel
theorem d_K_pass_18 : decode b_K_pass 18 = .ok (.iinc 2 1, 3) := by decide +kernel
theorem d_K_pass_21 : decode b_K_pass 21 = .ok (.goto (-12), 3) := by decide +kernel
theorem d_K_pass_24 : decode b_K_pass 24 = .ok (.aload_n 0, 1) := by decide +kernel
theorem d_K_pass_25 : decode b_K_pass 25 = .ok (.getfield 34, 3) := by decide +kernel
theorem d_K_pass_28 : decode b_K_pass 28 = .ok (.ireturn, 1) := by decide +kernel
theorem d_K_message_0 : decode b_K_message 0 = .ok (.iload_n 1, 1) := by decide +kernel
theorem d_K_message_1 : decode b_K_message 1 = .ok (.invokestatic 46, 3) := by decide +kernel
theorem d_K_message_4 : decode b_K_message 4 = .ok (.aload_n 0, 1) := by decide +kernel
theorem d_K_message_5 : decode b_K_message 5 = .ok (.getfield 15, 3) := by decide +kernel
theorem d_K_message_8 : decode b_K_message 8 = .ok (.iload_n 1, 1) := by decide +kernel
theorem d_K_message_9 : decode b_K_message 9 = .ok (.aaload, 1) := by decide +kernel
theorem d_K_message_10 : decode b_K_message 10 = .ok (.invokestatic 225, 3) := by decide +kernel
theorem d_K_message_13 : decode b_K_message 13 = .ok (.aload_n 0, 1) := by decide +kernel
theorem d_K_message_14 : decode b_K_message 14 = .ok (.getfield 15, 3) := by decide +kernel
theorem d_K_message_17 : decode b_K_message 17 = .ok (.iload_n 1, 1) := by decide +kernel
theorem d_K_message_18 : decode b_K_message 18 = .ok (.aaload, 1) := by decide +kernel
theorem d_K_message_19 : decode b_K_message 19 = .ok (.getfield 229, 3) := by decide +kernel
theorem d_K_message_22 : decode b_K_message 22 = .ok (.iconst 0, 1) := by decide +kernel
theorem d_K_message_23 : decode b_K_message 23 = .ok (.iaload, 1) := by decide +kernel
theorem d_K_message_24 : decode b_K_message 24 = .ok (.ireturn, 1) := by decide +kernel
theorem d_K_acknowledge_0 : decode b_K_acknowledge 0 = .ok (.iload_n 1, 1) := by decide +kernel
theorem d_K_acknowledge_1 : decode b_K_acknowledge 1 = .ok (.invokestatic 46, 3) := by decide +kernel
theorem d_K_acknowledge_4 : decode b_K_acknowledge 4 = .ok (.aload_n 0, 1) := by decide +kernel
theorem d_K_acknowledge_5 : decode b_K_acknowledge 5 = .ok (.getfield 15, 3) := by decide +kernel
theorem d_K_acknowledge_8 : decode b_K_acknowledge 8 = .ok (.iload_n 1, 1) := by decide +kernel
theorem d_K_acknowledge_9 : decode b_K_acknowledge 9 = .ok (.aaload, 1) := by decide +kernel
theorem d_K_acknowledge_10 : decode b_K_acknowledge 10 = .ok (.invokestatic 225, 3) := by decide +kernel
theorem d_K_acknowledge_13 : decode b_K_acknowledge 13 = .ok (.aload_n 0, 1) := by decide +kernel
theorem d_K_acknowledge_14 : decode b_K_acknowledge 14 = .ok (.getfield 15, 3) := by decide +kernel
theorem d_K_acknowledge_17 : decode b_K_acknowledge 17 = .ok (.iload_n 1, 1) := by decide +kernel
theorem d_K_acknowledge_18 : decode b_K_acknowledge 18 = .ok (.aaload, 1) := by decide +kernel
theorem d_K_acknowledge_19 : decode b_K_acknowledge 19 = .ok (.invokevirtual 233, 3) := by decide +kernel
theorem d_K_acknowledge_22 : decode b_K_acknowledge 22 = .ok (.aload_n 0, 1) := by decide +kernel
theorem d_K_acknowledge_23 : decode b_K_acknowledge 23 = .ok (.getfield 15, 3) := by decide +kernel
theorem d_K_acknowledge_26 : decode b_K_acknowledge 26 = .ok (.iload_n 1, 1) := by decide +kernel
theorem d_K_acknowledge_27 : decode b_K_acknowledge 27 = .ok (.aaload, 1) := by decide +kernel
theorem d_K_acknowledge_28 : decode b_K_acknowledge 28 = .ok (.getfield 236, 3) := by decide +kernel
theorem d_K_acknowledge_31 : decode b_K_acknowledge 31 = .ok (.ireturn, 1) := by decide +kernel
theorem d_K_balance_0 : decode b_K_balance 0 = .ok (.iload_n 1, 1) := by decide +kernel
theorem d_K_balance_1 : decode b_K_balance 1 = .ok (.invokestatic 46, 3) := by decide +kernel
theorem d_K_balance_4 : decode b_K_balance 4 = .ok (.aload_n 0, 1) := by decide +kernel
theorem d_K_balance_5 : decode b_K_balance 5 = .ok (.getfield 15, 3) := by decide +kernel
theorem d_K_balance_8 : decode b_K_balance 8 = .ok (.iload_n 1, 1) := by decide +kernel
theorem d_K_balance_9 : decode b_K_balance 9 = .ok (.aaload, 1) := by decide +kernel
theorem d_K_balance_10 : decode b_K_balance 10 = .ok (.getfield 53, 3) := by decide +kernel
theorem d_K_balance_13 : decode b_K_balance 13 = .ok (.dreturn, 1) := by decide +kernel
theorem d_K_paid_0 : decode b_K_paid 0 = .ok (.iload_n 1, 1) := by decide +kernel
theorem d_K_paid_1 : decode b_K_paid 1 = .ok (.invokestatic 46, 3) := by decide +kernel
theorem d_K_paid_4 : decode b_K_paid 4 = .ok (.iload_n 2, 1) := by decide +kernel
theorem d_K_paid_5 : decode b_K_paid 5 = .ok (.iconst 0, 1) := by decide +kernel
theorem d_K_paid_6 : decode b_K_paid 6 = .ok (.iconst 3, 1) := by decide +kernel
theorem d_K_paid_7 : decode b_K_paid 7 = .ok (.invokestatic 38, 3) := by decide +kernel
theorem d_K_paid_10 : decode b_K_paid 10 = .ok (.aload_n 0, 1) := by decide +kernel
theorem d_K_paid_11 : decode b_K_paid 11 = .ok (.getfield 15, 3) := by decide +kernel
theorem d_K_paid_14 : decode b_K_paid 14 = .ok (.iload_n 1, 1) := by decide +kernel
theorem d_K_paid_15 : decode b_K_paid 15 = .ok (.aaload, 1) := by decide +kernel
theorem d_K_paid_16 : decode b_K_paid 16 = .ok (.getfield 239, 3) := by decide +kernel
theorem d_K_paid_19 : decode b_K_paid 19 = .ok (.iload_n 2, 1) := by decide +kernel
theorem d_K_paid_20 : decode b_K_paid 20 = .ok (.daload, 1) := by decide +kernel
theorem d_K_paid_21 : decode b_K_paid 21 = .ok (.dreturn, 1) := by decide +kernel
theorem d_K_domain_0 : decode b_K_domain 0 = .ok (.iload_n 1, 1) := by decide +kernel
theorem d_K_domain_1 : decode b_K_domain 1 = .ok (.invokestatic 102, 3) := by decide +kernel
theorem d_K_domain_4 : decode b_K_domain 4 = .ok (.iload_n 2, 1) := by decide +kernel
theorem d_K_domain_5 : decode b_K_domain 5 = .ok (.iconst 0, 1) := by decide +kernel
theorem d_K_domain_6 : decode b_K_domain 6 = .ok (.bipush 13, 2) := by decide +kernel
theorem d_K_domain_8 : decode b_K_domain 8 = .ok (.invokestatic 38, 3) := by decide +kernel
theorem d_K_domain_11 : decode b_K_domain 11 = .ok (.aload_n 0, 1) := by decide +kernel
theorem d_K_domain_12 : decode b_K_domain 12 = .ok (.iload_n 1, 1) := by decide +kernel
theorem d_K_domain_13 : decode b_K_domain 13 = .ok (.invokevirtual 65, 3) := by decide +kernel
theorem d_K_domain_16 : decode b_K_domain 16 = .ok (.astore_n 3, 1) := by decide +kernel
theorem d_K_domain_17 : decode b_K_domain 17 = .ok (.iload_n 2, 1) := by decide +kernel
theorem d_K_domain_18 : decode b_K_domain 18 = .ok (.tableswitch 126 0 10 #[58, 63, 68, 73, 78, 88, 98, 103, 112, 112, 112], 58) := by decide +kernel
theorem d_K_domain_76 : decode b_K_domain 76 = .ok (.aload_n 3, 1) := by decide +kernel
theorem d_K_domain_77 : decode b_K_domain 77 = .ok (.getfield 69, 3) := by decide +kernel
theorem d_K_domain_80 : decode b_K_domain 80 = .ok (.ireturn, 1) := by decide +kernel
theorem d_K_domain_81 : decode b_K_domain 81 = .ok (.aload_n 3, 1) := by decide +kernel
theorem d_K_domain_82 : decode b_K_domain 82 = .ok (.getfield 120, 3) := by decide +kernel
theorem d_K_domain_85 : decode b_K_domain 85 = .ok (.ireturn, 1) := by decide +kernel
theorem d_K_domain_86 : decode b_K_domain 86 = .ok (.aload_n 3, 1) := by decide +kernel
theorem d_K_domain_87 : decode b_K_domain 87 = .ok (.getfield 153, 3) := by decide +kernel
theorem d_K_domain_90 : decode b_K_domain 90 = .ok (.ireturn, 1) := by decide +kernel
theorem d_K_domain_91 : decode b_K_domain 91 = .ok (.aload_n 3, 1) := by decide +kernel
theorem d_K_domain_92 : decode b_K_domain 92 = .ok (.getfield 242, 3) := by decide +kernel
theorem d_K_domain_95 : decode b_K_domain 95 = .ok (.ireturn, 1) := by decide +kernel
theorem d_K_domain_96 : decode b_K_domain 96 = .ok (.aload_n 3, 1) := by decide +kernel
theorem d_K_domain_97 : decode b_K_domain 97 = .ok (.getfield 130, 3) := by decide +kernel
theorem d_K_domain_100 : decode b_K_domain 100 = .ok (.iconst 0, 1) := by decide +kernel
theorem d_K_domain_101 : decode b_K_domain 101 = .ok (.aaload, 1) := by decide +kernel
theorem d_K_domain_102 : decode b_K_domain 102 = .ok (.getfield 150, 3) := by decide +kernel
theorem d_K_domain_105 : decode b_K_domain 105 = .ok (.ireturn, 1) := by decide +kernel
theorem d_K_domain_106 : decode b_K_domain 106 = .ok (.aload_n 3, 1) := by decide +kernel
theorem d_K_domain_107 : decode b_K_domain 107 = .ok (.getfield 130, 3) := by decide +kernel
theorem d_K_domain_110 : decode b_K_domain 110 = .ok (.iconst 1, 1) := by decide +kernel
theorem d_K_domain_111 : decode b_K_domain 111 = .ok (.aaload, 1) := by decide +kernel
theorem d_K_domain_112 : decode b_K_domain 112 = .ok (.getfield 150, 3) := by decide +kernel
theorem d_K_domain_115 : decode b_K_domain 115 = .ok (.ireturn, 1) := by decide +kernel
theorem d_K_domain_116 : decode b_K_domain 116 = .ok (.aload_n 3, 1) := by decide +kernel
theorem d_K_domain_117 : decode b_K_domain 117 = .ok (.getfield 193, 3) := by decide +kernel
theorem d_K_domain_120 : decode b_K_domain 120 = .ok (.ireturn, 1) := by decide +kernel
theorem d_K_domain_121 : decode b_K_domain 121 = .ok (.aload_n 3, 1) := by decide +kernel
theorem d_K_domain_122 : decode b_K_domain 122 = .ok (.aload_n 0, 1) := by decide +kernel
theorem d_K_domain_123 : decode b_K_domain 123 = .ok (.getfield 34, 3) := by decide +kernel
theorem d_K_domain_126 : decode b_K_domain 126 = .ok (.invokevirtual 245, 3) := by decide +kernel
theorem d_K_domain_129 : decode b_K_domain 129 = .ok (.ireturn, 1) := by decide +kernel
theorem d_K_domain_130 : decode b_K_domain 130 = .ok (.aload_n 3, 1) := by decide +kernel
theorem d_K_domain_131 : decode b_K_domain 131 = .ok (.getfield 130, 3) := by decide +kernel
theorem d_K_domain_134 : decode b_K_domain 134 = .ok (.iconst 0, 1) := by decide +kernel
theorem d_K_domain_135 : decode b_K_domain 135 = .ok (.aaload, 1) := by decide +kernel
theorem d_K_domain_136 : decode b_K_domain 136 = .ok (.iload_n 2, 1) := by decide +kernel
theorem d_K_domain_137 : decode b_K_domain 137 = .ok (.bipush 8, 2) := by decide +kernel
theorem d_K_domain_139 : decode b_K_domain 139 = .ok (.isub, 1) := by decide +kernel
theorem d_K_domain_140 : decode b_K_domain 140 = .ok (.invokevirtual 249, 3) := by decide +kernel
theorem d_K_domain_143 : decode b_K_domain 143 = .ok (.ireturn, 1) := by decide +kernel
theorem d_K_domain_144 : decode b_K_domain 144 = .ok (.aload_n 3, 1) := by decide +kernel
theorem d_K_domain_145 : decode b_K_domain 145 = .ok (.getfield 130, 3) := by decide +kernel
theorem d_K_domain_148 : decode b_K_domain 148 = .ok (.iconst 1, 1) := by decide +kernel
theorem d_K_domain_149 : decode b_K_domain 149 = .ok (.aaload, 1) := by decide +kernel
theorem d_K_domain_150 : decode b_K_domain 150 = .ok (.iload_n 2, 1) := by decide +kernel
theorem d_K_domain_151 : decode b_K_domain 151 = .ok (.bipush 11, 2) := by decide +kernel
theorem d_K_domain_153 : decode b_K_domain 153 = .ok (.isub, 1) := by decide +kernel
theorem d_K_domain_154 : decode b_K_domain 154 = .ok (.invokevirtual 249, 3) := by decide +kernel
theorem d_K_domain_157 : decode b_K_domain 157 = .ok (.ireturn, 1) := by decide +kernel
theorem d_K_thing_0 : decode b_K_thing 0 = .ok (.iload_n 1, 1) := by decide +kernel
theorem d_K_thing_1 : decode b_K_thing 1 = .ok (.bipush 100, 2) := by decide +kernel
theorem d_K_thing_3 : decode b_K_thing 3 = .ok (.if_icmp .ge 7, 3) := by decide +kernel
theorem d_K_thing_6 : decode b_K_thing 6 = .ok (.iconst 1, 1) := by decide +kernel
theorem d_K_thing_7 : decode b_K_thing 7 = .ok (.goto 4, 3) := by decide +kernel
theorem d_K_thing_10 : decode b_K_thing 10 = .ok (.iconst 0, 1) := by decide +kernel
theorem d_K_thing_11 : decode b_K_thing 11 = .ok (.istore_n 3, 1) := by decide +kernel
theorem d_K_thing_12 : decode b_K_thing 12 = .ok (.iload_n 3, 1) := by decide +kernel
theorem d_K_thing_13 : decode b_K_thing 13 = .ok (.iconst 1, 1) := by decide +kernel
theorem d_K_thing_14 : decode b_K_thing 14 = .ok (.if_icmp .ne 7, 3) := by decide +kernel
theorem d_K_thing_17 : decode b_K_thing 17 = .ok (.iload_n 1, 1) := by decide +kernel
theorem d_K_thing_18 : decode b_K_thing 18 = .ok (.goto 7, 3) := by decide +kernel
theorem d_K_thing_21 : decode b_K_thing 21 = .ok (.iload_n 1, 1) := by decide +kernel
theorem d_K_thing_22 : decode b_K_thing 22 = .ok (.bipush 100, 2) := by decide +kernel
theorem d_K_thing_24 : decode b_K_thing 24 = .ok (.isub, 1) := by decide +kernel
theorem d_K_thing_25 : decode b_K_thing 25 = .ok (.istore 4, 2) := by decide +kernel
theorem d_K_thing_27 : decode b_K_thing 27 = .ok (.iload 4, 2) := by decide +kernel
theorem d_K_thing_29 : decode b_K_thing 29 = .ok (.iconst 0, 1) := by decide +kernel
theorem d_K_thing_30 : decode b_K_thing 30 = .ok (.bipush 7, 2) := by decide +kernel
theorem d_K_thing_32 : decode b_K_thing 32 = .ok (.invokestatic 38, 3) := by decide +kernel
theorem d_K_thing_35 : decode b_K_thing 35 = .ok (.iload_n 2, 1) := by decide +kernel
theorem d_K_thing_36 : decode b_K_thing 36 = .ok (.iconst 0, 1) := by decide +kernel
theorem d_K_thing_37 : decode b_K_thing 37 = .ok (.iconst 3, 1) := by decide +kernel
theorem d_K_thing_38 : decode b_K_thing 38 = .ok (.invokestatic 38, 3) := by decide +kernel
theorem d_K_thing_41 : decode b_K_thing 41 = .ok (.aload_n 0, 1) := by decide +kernel
theorem d_K_thing_42 : decode b_K_thing 42 = .ok (.iload_n 3, 1) := by decide +kernel
theorem d_K_thing_43 : decode b_K_thing 43 = .ok (.iload 4, 2) := by decide +kernel
theorem d_K_thing_45 : decode b_K_thing 45 = .ok (.invokevirtual 76, 3) := by decide +kernel
theorem d_K_thing_48 : decode b_K_thing 48 = .ok (.astore 5, 2) := by decide +kernel
theorem d_K_thing_50 : decode b_K_thing 50 = .ok (.iload_n 2, 1) := by decide +kernel
theorem d_K_thing_51 : decode b_K_thing 51 = .ok (.ifCond .ne 9, 3) := by decide +kernel
theorem d_K_thing_54 : decode b_K_thing 54 = .ok (.aload 5, 2) := by decide +kernel
theorem d_K_thing_56 : decode b_K_thing 56 = .ok (.getfield 80, 3) := by decide +kernel
theorem d_K_thing_59 : decode b_K_thing 59 = .ok (.ireturn, 1) := by decide +kernel
theorem d_K_thing_60 : decode b_K_thing 60 = .ok (.iload_n 2, 1) := by decide +kernel
theorem d_K_thing_61 : decode b_K_thing 61 = .ok (.iconst 3, 1) := by decide +kernel
theorem d_K_thing_62 : decode b_K_thing 62 = .ok (.if_icmp .ne 11, 3) := by decide +kernel
theorem d_K_thing_65 : decode b_K_thing 65 = .ok (.aload_n 0, 1) := by decide +kernel
theorem d_K_thing_66 : decode b_K_thing 66 = .ok (.iload_n 3, 1) := by decide +kernel
theorem d_K_thing_67 : decode b_K_thing 67 = .ok (.iload 4, 2) := by decide +kernel
theorem d_K_thing_69 : decode b_K_thing 69 = .ok (.invokevirtual 83, 3) := by decide +kernel
theorem d_K_thing_72 : decode b_K_thing 72 = .ok (.ireturn, 1) := by decide +kernel
theorem d_K_thing_73 : decode b_K_thing 73 = .ok (.iload_n 3, 1) := by decide +kernel
theorem d_K_thing_74 : decode b_K_thing 74 = .ok (.ifCond .ne 5, 3) := by decide +kernel
theorem d_K_thing_77 : decode b_K_thing 77 = .ok (.iconst (-1), 1) := by decide +kernel
theorem d_K_thing_78 : decode b_K_thing 78 = .ok (.ireturn, 1) := by decide +kernel
theorem d_K_thing_79 : decode b_K_thing 79 = .ok (.iload_n 2, 1) := by decide +kernel
theorem d_K_thing_80 : decode b_K_thing 80 = .ok (.iconst 1, 1) := by decide +kernel
theorem d_K_thing_81 : decode b_K_thing 81 = .ok (.if_icmp .ne 11, 3) := by decide +kernel
theorem d_K_thing_84 : decode b_K_thing 84 = .ok (.aload 5, 2) := by decide +kernel
theorem d_K_thing_86 : decode b_K_thing 86 = .ok (.getfield 252, 3) := by decide +kernel
theorem d_K_thing_89 : decode b_K_thing 89 = .ok (.goto 8, 3) := by decide +kernel
theorem d_K_thing_92 : decode b_K_thing 92 = .ok (.aload 5, 2) := by decide +kernel
theorem d_K_thing_94 : decode b_K_thing 94 = .ok (.getfield 255, 3) := by decide +kernel
theorem d_K_thing_97 : decode b_K_thing 97 = .ok (.ireturn, 1) := by decide +kernel
theorem d_K_zone_0 : decode b_K_zone 0 = .ok (.iload_n 1, 1) := by decide +kernel
theorem d_K_zone_1 : decode b_K_zone 1 = .ok (.ifCond .lt 11, 3) := by decide +kernel
theorem d_K_zone_4 : decode b_K_zone 4 = .ok (.aload_n 0, 1) := by decide +kernel
theorem d_K_zone_5 : decode b_K_zone 5 = .ok (.iload_n 1, 1) := by decide +kernel
theorem d_K_zone_6 : decode b_K_zone 6 = .ok (.invokevirtual 258, 3) := by decide +kernel
theorem d_K_zone_9 : decode b_K_zone 9 = .ok (.goto 4, 3) := by decide +kernel
theorem d_K_zone_12 : decode b_K_zone 12 = .ok (.iconst (-1), 1) := by decide +kernel
theorem d_K_zone_13 : decode b_K_zone 13 = .ok (.istore_n 2, 1) := by decide +kernel
theorem d_K_zone_14 : decode b_K_zone 14 = .ok (.iload_n 2, 1) := by decide +kernel
theorem d_K_zone_15 : decode b_K_zone 15 = .ok (.iconst (-1), 1) := by decide +kernel
theorem d_K_zone_16 : decode b_K_zone 16 = .ok (.if_icmp .ne 14, 3) := by decide +kernel
theorem d_K_zone_19 : decode b_K_zone 19 = .ok (.new 202, 3) := by decide +kernel
theorem d_K_zone_22 : decode b_K_zone 22 = .ok (.dup, 1) := by decide +kernel
theorem d_K_zone_23 : decode b_K_zone 23 = .ok (.ldc_w 261, 3) := by decide +kernel
theorem d_K_zone_26 : decode b_K_zone 26 = .ok (.invokespecial 206, 3) := by decide +kernel
theorem d_K_zone_29 : decode b_K_zone 29 = .ok (.athrow, 1) := by decide +kernel
theorem d_K_zone_30 : decode b_K_zone 30 = .ok (.iload_n 2, 1) := by decide +kernel
theorem d_K_zone_31 : decode b_K_zone 31 = .ok (.ireturn, 1) := by decide +kernel
theorem d_K_count_0 : decode b_K_count 0 = .ok (.iload_n 1, 1) := by decide +kernel
theorem d_K_count_1 : decode b_K_count 1 = .ok (.tableswitch 79 0 5 #[39, 44, 49, 59, 69, 74], 39) := by decide +kernel
theorem d_K_count_40 : decode b_K_count 40 = .ok (.aload_n 0, 1) := by decide +kernel
theorem d_K_count_41 : decode b_K_count 41 = .ok (.getfield 34, 3) := by decide +kernel
theorem d_K_count_44 : decode b_K_count 44 = .ok (.ireturn, 1) := by decide +kernel
theorem d_K_count_45 : decode b_K_count 45 = .ok (.aload_n 0, 1) := by decide +kernel
theorem d_K_count_46 : decode b_K_count 46 = .ok (.invokevirtual 263, 3) := by decide +kernel
theorem d_K_count_49 : decode b_K_count 49 = .ok (.ireturn, 1) := by decide +kernel
theorem d_K_count_50 : decode b_K_count 50 = .ok (.aload_n 0, 1) := by decide +kernel
theorem d_K_count_51 : decode b_K_count 51 = .ok (.getfield 22, 3) := by decide +kernel
theorem d_K_count_54 : decode b_K_count 54 = .ok (.iconst 0, 1) := by decide +kernel
theorem d_K_count_55 : decode b_K_count 55 = .ok (.aaload, 1) := by decide +kernel
theorem d_K_count_56 : decode b_K_count 56 = .ok (.invokevirtual 98, 3) := by decide +kernel
theorem d_K_count_59 : decode b_K_count 59 = .ok (.ireturn, 1) := by decide +kernel
theorem d_K_count_60 : decode b_K_count 60 = .ok (.aload_n 0, 1) := by decide +kernel
theorem d_K_count_61 : decode b_K_count 61 = .ok (.getfield 22, 3) := by decide +kernel
theorem d_K_count_64 : decode b_K_count 64 = .ok (.iconst 1, 1) := by decide +kernel
theorem d_K_count_65 : decode b_K_count 65 = .ok (.aaload, 1) := by decide +kernel
theorem d_K_count_66 : decode b_K_count 66 = .ok (.invokevirtual 98, 3) := by decide +kernel
theorem d_K_count_69 : decode b_K_count 69 = .ok (.ireturn, 1) := by decide +kernel
theorem d_K_count_70 : decode b_K_count 70 = .ok (.aload_n 0, 1) := by decide +kernel
theorem d_K_count_71 : decode b_K_count 71 = .ok (.invokevirtual 266, 3) := by decide +kernel
theorem d_K_count_74 : decode b_K_count 74 = .ok (.ireturn, 1) := by decide +kernel
theorem d_K_count_75 : decode b_K_count 75 = .ok (.aload_n 0, 1) := by decide +kernel
theorem d_K_count_76 : decode b_K_count 76 = .ok (.invokevirtual 269, 3) := by decide +kernel
theorem d_K_count_79 : decode b_K_count 79 = .ok (.ireturn, 1) := by decide +kernel
theorem d_K_count_80 : decode b_K_count 80 = .ok (.iconst (-1), 1) := by decide +kernel
theorem d_K_count_81 : decode b_K_count 81 = .ok (.ireturn, 1) := by decide +kernel
theorem d_K_requireRange_0 : decode b_K_requireRange 0 = .ok (.iload_n 0, 1) := by decide +kernel
theorem d_K_requireRange_1 : decode b_K_requireRange 1 = .ok (.iload_n 1, 1) := by decide +kernel
theorem d_K_requireRange_2 : decode b_K_requireRange 2 = .ok (.if_icmp .lt 8, 3) := by decide +kernel
theorem d_K_requireRange_5 : decode b_K_requireRange 5 = .ok (.iload_n 0, 1) := by decide +kernel
theorem d_K_requireRange_6 : decode b_K_requireRange 6 = .ok (.iload_n 2, 1) := by decide +kernel
theorem d_K_requireRange_7 : decode b_K_requireRange 7 = .ok (.if_icmp .le 14, 3) := by decide +kernel
theorem d_K_requireRange_10 : decode b_K_requireRange 10 = .ok (.new 272, 3) := by decide +kernel
theorem d_K_requireRange_13 : decode b_K_requireRange 13 = .ok (.dup, 1) := by decide +kernel
theorem d_K_requireRange_14 : decode b_K_requireRange 14 = .ok (.ldc_w 274, 3) := by decide +kernel
theorem d_K_requireRange_17 : decode b_K_requireRange 17 = .ok (.invokespecial 276, 3) := by decide +kernel
theorem d_K_requireRange_20 : decode b_K_requireRange 20 = .ok (.athrow, 1) := by decide +kernel
theorem d_K_requireRange_21 : decode b_K_requireRange 21 = .ok (.return_, 1) := by decide +kernel
theorem d_K_requireRegistrar_0 : decode b_K_requireRegistrar 0 = .ok (.iload_n 0, 1) := by decide +kernel
theorem d_K_requireRegistrar_1 : decode b_K_requireRegistrar 1 = .ok (.iconst 0, 1) := by decide +kernel
theorem d_K_requireRegistrar_2 : decode b_K_requireRegistrar 2 = .ok (.iconst 3, 1) := by decide +kernel
theorem d_K_requireRegistrar_3 : decode b_K_requireRegistrar 3 = .ok (.invokestatic 38, 3) := by decide +kernel
theorem d_K_requireRegistrar_6 : decode b_K_requireRegistrar 6 = .ok (.return_, 1) := by decide +kernel
theorem d_K_requireName_0 : decode b_K_requireName 0 = .ok (.iload_n 0, 1) := by decide +kernel
theorem d_K_requireName_1 : decode b_K_requireName 1 = .ok (.iconst 0, 1) := by decide +kernel
theorem d_K_requireName_2 : decode b_K_requireName 2 = .ok (.bipush 9, 2) := by decide +kernel
theorem d_K_requireName_4 : decode b_K_requireName 4 = .ok (.invokestatic 38, 3) := by decide +kernel
theorem d_K_requireName_7 : decode b_K_requireName 7 = .ok (.return_, 1) := by decide +kernel
theorem d_K_requireAmount_0 : decode b_K_requireAmount 0 = .ok (.dload_n 0, 1) := by decide +kernel
theorem d_K_requireAmount_1 : decode b_K_requireAmount 1 = .ok (.dconst 0, 1) := by decide +kernel
theorem d_K_requireAmount_2 : decode b_K_requireAmount 2 = .ok (.dcmp .l, 1) := by decide +kernel
theorem d_K_requireAmount_3 : decode b_K_requireAmount 3 = .ok (.ifCond .lt 11, 3) := by decide +kernel
theorem d_K_requireAmount_6 : decode b_K_requireAmount 6 = .ok (.dload_n 0, 1) := by decide +kernel
theorem d_K_requireAmount_7 : decode b_K_requireAmount 7 = .ok (.ldc2_w 277, 3) := by decide +kernel
theorem d_K_requireAmount_10 : decode b_K_requireAmount 10 = .ok (.dcmp .g, 1) := by decide +kernel
theorem d_K_requireAmount_11 : decode b_K_requireAmount 11 = .ok (.ifCond .le 14, 3) := by decide +kernel
theorem d_K_requireAmount_14 : decode b_K_requireAmount 14 = .ok (.new 272, 3) := by decide +kernel
theorem d_K_requireAmount_17 : decode b_K_requireAmount 17 = .ok (.dup, 1) := by decide +kernel
theorem d_K_requireAmount_18 : decode b_K_requireAmount 18 = .ok (.ldc_w 279, 3) := by decide +kernel
theorem d_K_requireAmount_21 : decode b_K_requireAmount 21 = .ok (.invokespecial 276, 3) := by decide +kernel
theorem d_K_requireAmount_24 : decode b_K_requireAmount 24 = .ok (.athrow, 1) := by decide +kernel
theorem d_K_requireAmount_25 : decode b_K_requireAmount 25 = .ok (.return_, 1) := by decide +kernel
theorem d_K_requireAboveZero_0 : decode b_K_requireAboveZero 0 = .ok (.dload_n 0, 1) := by decide +kernel
theorem d_K_requireAboveZero_1 : decode b_K_requireAboveZero 1 = .ok (.dconst 0, 1) := by decide +kernel
theorem d_K_requireAboveZero_2 : decode b_K_requireAboveZero 2 = .ok (.dcmp .g, 1) := by decide +kernel
theorem d_K_requireAboveZero_3 : decode b_K_requireAboveZero 3 = .ok (.ifCond .gt 14, 3) := by decide +kernel
theorem d_K_requireAboveZero_6 : decode b_K_requireAboveZero 6 = .ok (.new 272, 3) := by decide +kernel
theorem d_K_requireAboveZero_9 : decode b_K_requireAboveZero 9 = .ok (.dup, 1) := by decide +kernel
theorem d_K_requireAboveZero_10 : decode b_K_requireAboveZero 10 = .ok (.ldc_w 281, 3) := by decide +kernel
theorem d_K_requireAboveZero_13 : decode b_K_requireAboveZero 13 = .ok (.invokespecial 276, 3) := by decide +kernel
theorem d_K_requireAboveZero_16 : decode b_K_requireAboveZero 16 = .ok (.athrow, 1) := by decide +kernel
theorem d_K_requireAboveZero_17 : decode b_K_requireAboveZero 17 = .ok (.return_, 1) := by decide +kernel
theorem d_K_domainThere_0 : decode b_K_domainThere 0 = .ok (.aload_n 0, 1) := by decide +kernel
theorem d_K_domainThere_1 : decode b_K_domainThere 1 = .ok (.getfield 29, 3) := by decide +kernel
theorem d_K_domainThere_4 : decode b_K_domainThere 4 = .ok (.iload_n 1, 1) := by decide +kernel
theorem d_K_domainThere_5 : decode b_K_domainThere 5 = .ok (.aaload, 1) := by decide +kernel
theorem d_K_domainThere_6 : decode b_K_domainThere 6 = .ok (.getfield 105, 3) := by decide +kernel
theorem d_K_domainThere_9 : decode b_K_domainThere 9 = .ok (.ifCond .ne 14, 3) := by decide +kernel
theorem d_K_domainThere_12 : decode b_K_domainThere 12 = .ok (.new 202, 3) := by decide +kernel
theorem d_K_domainThere_15 : decode b_K_domainThere 15 = .ok (.dup, 1) := by decide +kernel
theorem d_K_domainThere_16 : decode b_K_domainThere 16 = .ok (.ldc_w 283, 3) := by decide +kernel
theorem d_K_domainThere_19 : decode b_K_domainThere 19 = .ok (.invokespecial 206, 3) := by decide +kernel
theorem d_K_domainThere_22 : decode b_K_domainThere 22 = .ok (.athrow, 1) := by decide +kernel
theorem d_K_domainThere_23 : decode b_K_domainThere 23 = .ok (.aload_n 0, 1) := by decide +kernel
theorem d_K_domainThere_24 : decode b_K_domainThere 24 = .ok (.getfield 29, 3) := by decide +kernel
theorem d_K_domainThere_27 : decode b_K_domainThere 27 = .ok (.iload_n 1, 1) := by decide +kernel
theorem d_K_domainThere_28 : decode b_K_domainThere 28 = .ok (.aaload, 1) := by decide +kernel
theorem d_K_domainThere_29 : decode b_K_domainThere 29 = .ok (.areturn, 1) := by decide +kernel
theorem d_K_thingThere_0 : decode b_K_thingThere 0 = .ok (.aload_n 0, 1) := by decide +kernel
theorem d_K_thingThere_1 : decode b_K_thingThere 1 = .ok (.getfield 22, 3) := by decide +kernel
theorem d_K_thingThere_4 : decode b_K_thingThere 4 = .ok (.iload_n 1, 1) := by decide +kernel
theorem d_K_thingThere_5 : decode b_K_thingThere 5 = .ok (.aaload, 1) := by decide +kernel
theorem d_K_thingThere_6 : decode b_K_thingThere 6 = .ok (.iload_n 2, 1) := by decide +kernel
theorem d_K_thingThere_7 : decode b_K_thingThere 7 = .ok (.invokevirtual 285, 3) := by decide +kernel
theorem d_K_thingThere_10 : decode b_K_thingThere 10 = .ok (.ifCond .ne 14, 3) := by decide +kernel
theorem d_K_thingThere_13 : decode b_K_thingThere 13 = .ok (.new 202, 3) := by decide +kernel
theorem d_K_thingThere_16 : decode b_K_thingThere 16 = .ok (.dup, 1) := by decide +kernel
theorem d_K_thingThere_17 : decode b_K_thingThere 17 = .ok (.ldc_w 288, 3) := by decide +kernel
theorem d_K_thingThere_20 : decode b_K_thingThere 20 = .ok (.invokespecial 206, 3) := by decide +kernel
theorem d_K_thingThere_23 : decode b_K_thingThere 23 = .ok (.athrow, 1) := by decide +kernel
theorem d_K_thingThere_24 : decode b_K_thingThere 24 = .ok (.aload_n 0, 1) := by decide +kernel
theorem d_K_thingThere_25 : decode b_K_thingThere 25 = .ok (.getfield 22, 3) := by decide +kernel
theorem d_K_thingThere_28 : decode b_K_thingThere 28 = .ok (.iload_n 1, 1) := by decide +kernel
theorem d_K_thingThere_29 : decode b_K_thingThere 29 = .ok (.aaload, 1) := by decide +kernel
theorem d_K_thingThere_30 : decode b_K_thingThere 30 = .ok (.getfield 290, 3) := by decide +kernel
theorem d_K_thingThere_33 : decode b_K_thingThere 33 = .ok (.iload_n 2, 1) := by decide +kernel
theorem d_K_thingThere_34 : decode b_K_thingThere 34 = .ok (.aaload, 1) := by decide +kernel
theorem d_K_thingThere_35 : decode b_K_thingThere 35 = .ok (.areturn, 1) := by decide +kernel
theorem d_K_requireMessage_0 : decode b_K_requireMessage 0 = .ok (.aload_n 0, 1) := by decide +kernel
theorem d_K_requireMessage_1 : decode b_K_requireMessage 1 = .ok (.getfield 236, 3) := by decide +kernel
theorem d_K_requireMessage_4 : decode b_K_requireMessage 4 = .ok (.ifCond .ne 14, 3) := by decide +kernel
theorem d_K_requireMessage_7 : decode b_K_requireMessage 7 = .ok (.new 202, 3) := by decide +kernel
theorem d_K_requireMessage_10 : decode b_K_requireMessage 10 = .ok (.dup, 1) := by decide +kernel
theorem d_K_requireMessage_11 : decode b_K_requireMessage 11 = .ok (.ldc_w 294, 3) := by decide +kernel
theorem d_K_requireMessage_14 : decode b_K_requireMessage 14 = .ok (.invokespecial 206, 3) := by decide +kernel
theorem d_K_requireMessage_17 : decode b_K_requireMessage 17 = .ok (.athrow, 1) := by decide +kernel
theorem d_K_requireMessage_18 : decode b_K_requireMessage 18 = .ok (.return_, 1) := by decide +kernel
theorem d_K_requireOwner_0 : decode b_K_requireOwner 0 = .ok (.iload_n 0, 1) := by decide +kernel
theorem d_K_requireOwner_1 : decode b_K_requireOwner 1 = .ok (.iload_n 1, 1) := by decide +kernel
theorem d_K_requireOwner_2 : decode b_K_requireOwner 2 = .ok (.if_icmp .eq 14, 3) := by decide +kernel
theorem d_K_requireOwner_5 : decode b_K_requireOwner 5 = .ok (.new 188, 3) := by decide +kernel
theorem d_K_requireOwner_8 : decode b_K_requireOwner 8 = .ok (.dup, 1) := by decide +kernel
theorem d_K_requireOwner_9 : decode b_K_requireOwner 9 = .ok (.ldc_w 296, 3) := by decide +kernel
theorem d_K_requireOwner_12 : decode b_K_requireOwner 12 = .ok (.invokespecial 192, 3) := by decide +kernel
theorem d_K_requireOwner_15 : decode b_K_requireOwner 15 = .ok (.athrow, 1) := by decide +kernel
theorem d_K_requireOwner_16 : decode b_K_requireOwner 16 = .ok (.return_, 1) := by decide +kernel
theorem d_K_requireState_0 : decode b_K_requireState 0 = .ok (.aload_n 0, 1) := by decide +kernel
theorem d_K_requireState_1 : decode b_K_requireState 1 = .ok (.getfield 242, 3) := by decide +kernel
theorem d_K_requireState_4 : decode b_K_requireState 4 = .ok (.iload_n 1, 1) := by decide +kernel
theorem d_K_requireState_5 : decode b_K_requireState 5 = .ok (.if_icmp .eq 14, 3) := by decide +kernel
theorem d_K_requireState_8 : decode b_K_requireState 8 = .ok (.new 188, 3) := by decide +kernel
theorem d_K_requireState_11 : decode b_K_requireState 11 = .ok (.dup, 1) := by decide +kernel
theorem d_K_requireState_12 : decode b_K_requireState 12 = .ok (.ldc_w 298, 3) := by decide +kernel
theorem d_K_requireState_15 : decode b_K_requireState 15 = .ok (.invokespecial 192, 3) := by decide +kernel
theorem d_K_requireState_18 : decode b_K_requireState 18 = .ok (.athrow, 1) := by decide +kernel
theorem d_K_requireState_19 : decode b_K_requireState 19 = .ok (.return_, 1) := by decide +kernel
theorem d_K_requireUnlocked_0 : decode b_K_requireUnlocked 0 = .ok (.aload_n 0, 1) := by decide +kernel
theorem d_K_requireUnlocked_1 : decode b_K_requireUnlocked 1 = .ok (.getfield 153, 3) := by decide +kernel
theorem d_K_requireUnlocked_4 : decode b_K_requireUnlocked 4 = .ok (.iload_n 1, 1) := by decide +kernel
theorem d_K_requireUnlocked_5 : decode b_K_requireUnlocked 5 = .ok (.iand, 1) := by decide +kernel
theorem d_K_requireUnlocked_6 : decode b_K_requireUnlocked 6 = .ok (.ifCond .eq 14, 3) := by decide +kernel
theorem d_K_requireUnlocked_9 : decode b_K_requireUnlocked 9 = .ok (.new 188, 3) := by decide +kernel
theorem d_K_requireUnlocked_12 : decode b_K_requireUnlocked 12 = .ok (.dup, 1) := by decide +kernel
theorem d_K_requireUnlocked_13 : decode b_K_requireUnlocked 13 = .ok (.ldc_w 300, 3) := by decide +kernel
theorem d_K_requireUnlocked_16 : decode b_K_requireUnlocked 16 = .ok (.invokespecial 192, 3) := by decide +kernel
theorem d_K_requireUnlocked_19 : decode b_K_requireUnlocked 19 = .ok (.athrow, 1) := by decide +kernel
theorem d_K_requireUnlocked_20 : decode b_K_requireUnlocked 20 = .ok (.return_, 1) := by decide +kernel
theorem d_K_requireNoTransfer_0 : decode b_K_requireNoTransfer 0 = .ok (.aload_n 0, 1) := by decide +kernel
theorem d_K_requireNoTransfer_1 : decode b_K_requireNoTransfer 1 = .ok (.getfield 193, 3) := by decide +kernel
theorem d_K_requireNoTransfer_4 : decode b_K_requireNoTransfer 4 = .ok (.iconst (-1), 1) := by decide +kernel
theorem d_K_requireNoTransfer_5 : decode b_K_requireNoTransfer 5 = .ok (.if_icmp .eq 14, 3) := by decide +kernel
theorem d_K_requireNoTransfer_8 : decode b_K_requireNoTransfer 8 = .ok (.new 87, 3) := by decide +kernel
theorem d_K_requireNoTransfer_11 : decode b_K_requireNoTransfer 11 = .ok (.dup, 1) := by decide +kernel
theorem d_K_requireNoTransfer_12 : decode b_K_requireNoTransfer 12 = .ok (.ldc_w 302, 3) := by decide +kernel
theorem d_K_requireNoTransfer_15 : decode b_K_requireNoTransfer 15 = .ok (.invokespecial 91, 3) := by decide +kernel
theorem d_K_requireNoTransfer_18 : decode b_K_requireNoTransfer 18 = .ok (.athrow, 1) := by decide +kernel
theorem d_K_requireNoTransfer_19 : decode b_K_requireNoTransfer 19 = .ok (.return_, 1) := by decide +kernel
theorem d_K_requireShelfRoom_0 : decode b_K_requireShelfRoom 0 = .ok (.aload_n 0, 1) := by decide +kernel
theorem d_K_requireShelfRoom_1 : decode b_K_requireShelfRoom 1 = .ok (.getfield 304, 3) := by decide +kernel
theorem d_K_requireShelfRoom_4 : decode b_K_requireShelfRoom 4 = .ok (.bipush 8, 2) := by decide +kernel
theorem d_K_requireShelfRoom_6 : decode b_K_requireShelfRoom 6 = .ok (.if_icmp .lt 14, 3) := by decide +kernel
theorem d_K_requireShelfRoom_9 : decode b_K_requireShelfRoom 9 = .ok (.new 87, 3) := by decide +kernel
theorem d_K_requireShelfRoom_12 : decode b_K_requireShelfRoom 12 = .ok (.dup, 1) := by decide +kernel
theorem d_K_requireShelfRoom_13 : decode b_K_requireShelfRoom 13 = .ok (.ldc_w 307, 3) := by decide +kernel
theorem d_K_requireShelfRoom_16 : decode b_K_requireShelfRoom 16 = .ok (.invokespecial 91, 3) := by decide +kernel
theorem d_K_requireShelfRoom_19 : decode b_K_requireShelfRoom 19 = .ok (.athrow, 1) := by decide +kernel
theorem d_K_requireShelfRoom_20 : decode b_K_requireShelfRoom 20 = .ok (.return_, 1) := by decide +kernel
theorem d_K_requireAddable_0 : decode b_K_requireAddable 0 = .ok (.aload_n 0, 1) := by decide +kernel
theorem d_K_requireAddable_1 : decode b_K_requireAddable 1 = .ok (.iload_n 1, 1) := by decide +kernel
theorem d_K_requireAddable_2 : decode b_K_requireAddable 2 = .ok (.invokevirtual 309, 3) := by decide +kernel
theorem d_K_requireAddable_5 : decode b_K_requireAddable 5 = .ok (.iconst (-1), 1) := by decide +kernel
theorem d_K_requireAddable_6 : decode b_K_requireAddable 6 = .ok (.if_icmp .ne 11, 3) := by decide +kernel
theorem d_K_requireAddable_9 : decode b_K_requireAddable 9 = .ok (.aload_n 0, 1) := by decide +kernel
theorem d_K_requireAddable_10 : decode b_K_requireAddable 10 = .ok (.getfield 150, 3) := by decide +kernel
theorem d_K_requireAddable_13 : decode b_K_requireAddable 13 = .ok (.iconst 3, 1) := by decide +kernel
theorem d_K_requireAddable_14 : decode b_K_requireAddable 14 = .ok (.if_icmp .lt 14, 3) := by decide +kernel
theorem d_K_requireAddable_17 : decode b_K_requireAddable 17 = .ok (.new 87, 3) := by decide +kernel
theorem d_K_requireAddable_20 : decode b_K_requireAddable 20 = .ok (.dup, 1) := by decide +kernel
theorem d_K_requireAddable_21 : decode b_K_requireAddable 21 = .ok (.ldc_w 312, 3) := by decide +kernel
theorem d_K_requireAddable_24 : decode b_K_requireAddable 24 = .ok (.invokespecial 91, 3) := by decide +kernel
theorem d_K_requireAddable_27 : decode b_K_requireAddable 27 = .ok (.athrow, 1) := by decide +kernel
theorem d_K_requireAddable_28 : decode b_K_requireAddable 28 = .ok (.return_, 1) := by decide +kernel
