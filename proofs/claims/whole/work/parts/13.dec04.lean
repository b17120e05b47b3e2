theorem d_N_host_0 : decode b_N_host 0 = .ok (.iload_n 1, 1) := by decide +kernel
theorem d_N_host_1 : decode b_N_host 1 = .ok (.iconst 0, 1) := by decide +kernel
theorem d_N_host_2 : decode b_N_host 2 = .ok (.iconst 3, 1) := by decide +kernel
theorem d_N_host_3 : decode b_N_host 3 = .ok (.invokestatic 116, 3) := by decide +kernel
theorem d_N_host_6 : decode b_N_host 6 = .ok (.ifCond .eq 45, 3) := by decide +kernel
theorem d_N_host_9 : decode b_N_host 9 = .ok (.iload_n 2, 1) := by decide +kernel
theorem d_N_host_10 : decode b_N_host 10 = .ok (.iconst (-1), 1) := by decide +kernel
theorem d_N_host_11 : decode b_N_host 11 = .ok (.bipush 9, 2) := by decide +kernel
theorem d_N_host_13 : decode b_N_host 13 = .ok (.invokestatic 116, 3) := by decide +kernel
theorem d_N_host_16 : decode b_N_host 16 = .ok (.ifCond .eq 35, 3) := by decide +kernel
theorem d_N_host_19 : decode b_N_host 19 = .ok (.iload_n 3, 1) := by decide +kernel
theorem d_N_host_20 : decode b_N_host 20 = .ok (.iconst 0, 1) := by decide +kernel
theorem d_N_host_21 : decode b_N_host 21 = .ok (.sipush 999, 3) := by decide +kernel
theorem d_N_host_24 : decode b_N_host 24 = .ok (.invokestatic 116, 3) := by decide +kernel
theorem d_N_host_27 : decode b_N_host 27 = .ok (.ifCond .eq 24, 3) := by decide +kernel
theorem d_N_host_30 : decode b_N_host 30 = .ok (.iload_n 2, 1) := by decide +kernel
theorem d_N_host_31 : decode b_N_host 31 = .ok (.ifCond .ge 7, 3) := by decide +kernel
theorem d_N_host_34 : decode b_N_host 34 = .ok (.iconst 1, 1) := by decide +kernel
theorem d_N_host_35 : decode b_N_host 35 = .ok (.goto 4, 3) := by decide +kernel
theorem d_N_host_38 : decode b_N_host 38 = .ok (.iconst 0, 1) := by decide +kernel
theorem d_N_host_39 : decode b_N_host 39 = .ok (.iload_n 3, 1) := by decide +kernel
theorem d_N_host_40 : decode b_N_host 40 = .ok (.ifCond .ne 7, 3) := by decide +kernel
theorem d_N_host_43 : decode b_N_host 43 = .ok (.iconst 1, 1) := by decide +kernel
theorem d_N_host_44 : decode b_N_host 44 = .ok (.goto 4, 3) := by decide +kernel
theorem d_N_host_47 : decode b_N_host 47 = .ok (.iconst 0, 1) := by decide +kernel
theorem d_N_host_48 : decode b_N_host 48 = .ok (.if_icmp .eq 9, 3) := by decide +kernel
theorem d_N_host_51 : decode b_N_host 51 = .ok (.aload_n 0, 1) := by decide +kernel
theorem d_N_host_52 : decode b_N_host 52 = .ok (.iconst 1, 1) := by decide +kernel
theorem d_N_host_53 : decode b_N_host 53 = .ok (.invokevirtual 122, 3) := by decide +kernel
theorem d_N_host_56 : decode b_N_host 56 = .ok (.ireturn, 1) := by decide +kernel
theorem d_N_host_57 : decode b_N_host 57 = .ok (.iload_n 2, 1) := by decide +kernel
theorem d_N_host_58 : decode b_N_host 58 = .ok (.ifCond .lt 17, 3) := by decide +kernel
theorem d_N_host_61 : decode b_N_host 61 = .ok (.aload_n 0, 1) := by decide +kernel
theorem d_N_host_62 : decode b_N_host 62 = .ok (.iload_n 2, 1) := by decide +kernel
theorem d_N_host_63 : decode b_N_host 63 = .ok (.invokevirtual 133, 3) := by decide +kernel
theorem d_N_host_66 : decode b_N_host 66 = .ok (.ifCond .eq 9, 3) := by decide +kernel
theorem d_N_host_69 : decode b_N_host 69 = .ok (.aload_n 0, 1) := by decide +kernel
theorem d_N_host_70 : decode b_N_host 70 = .ok (.iconst 2, 1) := by decide +kernel
theorem d_N_host_71 : decode b_N_host 71 = .ok (.invokevirtual 122, 3) := by decide +kernel
theorem d_N_host_74 : decode b_N_host 74 = .ok (.ireturn, 1) := by decide +kernel
theorem d_N_host_75 : decode b_N_host 75 = .ok (.iload_n 2, 1) := by decide +kernel
theorem d_N_host_76 : decode b_N_host 76 = .ok (.ifCond .lt 19, 3) := by decide +kernel
theorem d_N_host_79 : decode b_N_host 79 = .ok (.aload_n 0, 1) := by decide +kernel
theorem d_N_host_80 : decode b_N_host 80 = .ok (.getfield 40, 3) := by decide +kernel
theorem d_N_host_83 : decode b_N_host 83 = .ok (.iload_n 2, 1) := by decide +kernel
theorem d_N_host_84 : decode b_N_host 84 = .ok (.iaload, 1) := by decide +kernel
theorem d_N_host_85 : decode b_N_host 85 = .ok (.iload_n 1, 1) := by decide +kernel
theorem d_N_host_86 : decode b_N_host 86 = .ok (.if_icmp .eq 9, 3) := by decide +kernel
theorem d_N_host_89 : decode b_N_host 89 = .ok (.aload_n 0, 1) := by decide +kernel
theorem d_N_host_90 : decode b_N_host 90 = .ok (.iconst 3, 1) := by decide +kernel
theorem d_N_host_91 : decode b_N_host 91 = .ok (.invokevirtual 122, 3) := by decide +kernel
theorem d_N_host_94 : decode b_N_host 94 = .ok (.ireturn, 1) := by decide +kernel
theorem d_N_host_95 : decode b_N_host 95 = .ok (.aload_n 0, 1) := by decide +kernel
theorem d_N_host_96 : decode b_N_host 96 = .ok (.getfield 85, 3) := by decide +kernel
theorem d_N_host_99 : decode b_N_host 99 = .ok (.bipush 8, 2) := by decide +kernel
theorem d_N_host_101 : decode b_N_host 101 = .ok (.if_icmp .ne 9, 3) := by decide +kernel
theorem d_N_host_104 : decode b_N_host 104 = .ok (.aload_n 0, 1) := by decide +kernel
theorem d_N_host_105 : decode b_N_host 105 = .ok (.iconst 4, 1) := by decide +kernel
theorem d_N_host_106 : decode b_N_host 106 = .ok (.invokevirtual 122, 3) := by decide +kernel
theorem d_N_host_109 : decode b_N_host 109 = .ok (.ireturn, 1) := by decide +kernel
theorem d_N_host_110 : decode b_N_host 110 = .ok (.aload_n 0, 1) := by decide +kernel
theorem d_N_host_111 : decode b_N_host 111 = .ok (.getfield 31, 3) := by decide +kernel
theorem d_N_host_114 : decode b_N_host 114 = .ok (.aload_n 0, 1) := by decide +kernel
theorem d_N_host_115 : decode b_N_host 115 = .ok (.getfield 85, 3) := by decide +kernel
theorem d_N_host_118 : decode b_N_host 118 = .ok (.iload_n 1, 1) := by decide +kernel
theorem d_N_host_119 : decode b_N_host 119 = .ok (.iastore, 1) := by decide +kernel
theorem d_N_host_120 : decode b_N_host 120 = .ok (.aload_n 0, 1) := by decide +kernel
theorem d_N_host_121 : decode b_N_host 121 = .ok (.getfield 37, 3) := by decide +kernel
theorem d_N_host_124 : decode b_N_host 124 = .ok (.aload_n 0, 1) := by decide +kernel
theorem d_N_host_125 : decode b_N_host 125 = .ok (.getfield 85, 3) := by decide +kernel
theorem d_N_host_128 : decode b_N_host 128 = .ok (.iload_n 2, 1) := by decide +kernel
theorem d_N_host_129 : decode b_N_host 129 = .ok (.iastore, 1) := by decide +kernel
theorem d_N_host_130 : decode b_N_host 130 = .ok (.aload_n 0, 1) := by decide +kernel
theorem d_N_host_131 : decode b_N_host 131 = .ok (.getfield 34, 3) := by decide +kernel
theorem d_N_host_134 : decode b_N_host 134 = .ok (.aload_n 0, 1) := by decide +kernel
theorem d_N_host_135 : decode b_N_host 135 = .ok (.getfield 85, 3) := by decide +kernel
theorem d_N_host_138 : decode b_N_host 138 = .ok (.iload_n 3, 1) := by decide +kernel
theorem d_N_host_139 : decode b_N_host 139 = .ok (.iastore, 1) := by decide +kernel
theorem d_N_host_140 : decode b_N_host 140 = .ok (.aload_n 0, 1) := by decide +kernel
theorem d_N_host_141 : decode b_N_host 141 = .ok (.dup, 1) := by decide +kernel
theorem d_N_host_142 : decode b_N_host 142 = .ok (.getfield 85, 3) := by decide +kernel
theorem d_N_host_145 : decode b_N_host 145 = .ok (.iconst 1, 1) := by decide +kernel
theorem d_N_host_146 : decode b_N_host 146 = .ok (.iadd, 1) := by decide +kernel
theorem d_N_host_147 : decode b_N_host 147 = .ok (.putfield 85, 3) := by decide +kernel
theorem d_N_host_150 : decode b_N_host 150 = .ok (.aload_n 0, 1) := by decide +kernel
theorem d_N_host_151 : decode b_N_host 151 = .ok (.aload_n 0, 1) := by decide +kernel
theorem d_N_host_152 : decode b_N_host 152 = .ok (.getfield 85, 3) := by decide +kernel
theorem d_N_host_155 : decode b_N_host 155 = .ok (.iconst 1, 1) := by decide +kernel
theorem d_N_host_156 : decode b_N_host 156 = .ok (.isub, 1) := by decide +kernel
theorem d_N_host_157 : decode b_N_host 157 = .ok (.invokevirtual 126, 3) := by decide +kernel
theorem d_N_host_160 : decode b_N_host 160 = .ok (.ireturn, 1) := by decide +kernel
theorem d_N_left_0 : decode b_N_left 0 = .ok (.iconst 0, 1) := by decide +kernel
theorem d_N_left_1 : decode b_N_left 1 = .ok (.istore_n 2, 1) := by decide +kernel
theorem d_N_left_2 : decode b_N_left 2 = .ok (.iconst 0, 1) := by decide +kernel
theorem d_N_left_3 : decode b_N_left 3 = .ok (.istore_n 3, 1) := by decide +kernel
theorem d_N_left_4 : decode b_N_left 4 = .ok (.iload_n 3, 1) := by decide +kernel
theorem d_N_left_5 : decode b_N_left 5 = .ok (.bipush 8, 2) := by decide +kernel
theorem d_N_left_7 : decode b_N_left 7 = .ok (.if_icmp .ge 21, 3) := by decide +kernel
theorem d_N_left_10 : decode b_N_left 10 = .ok (.aload_n 0, 1) := by decide +kernel
theorem d_N_left_11 : decode b_N_left 11 = .ok (.iload_n 1, 1) := by decide +kernel
theorem d_N_left_12 : decode b_N_left 12 = .ok (.iload_n 3, 1) := by decide +kernel
theorem d_N_left_13 : decode b_N_left 13 = .ok (.invokevirtual 137, 3) := by decide +kernel
theorem d_N_left_16 : decode b_N_left 16 = .ok (.ifCond .ne 6, 3) := by decide +kernel
theorem d_N_left_19 : decode b_N_left 19 = .ok (.iinc 2 1, 3) := by decide +kernel
theorem d_N_left_22 : decode b_N_left 22 = .ok (.iinc 3 1, 3) := by decide +kernel
theorem d_N_left_25 : decode b_N_left 25 = .ok (.goto (-21), 3) := by decide +kernel
theorem d_N_left_28 : decode b_N_left 28 = .ok (.iload_n 2, 1) := by decide +kernel
theorem d_N_left_29 : decode b_N_left 29 = .ok (.ireturn, 1) := by decide +kernel
theorem d_N_remove_0 : decode b_N_remove 0 = .ok (.iload_n 1, 1) := by decide +kernel
theorem d_N_remove_1 : decode b_N_remove 1 = .ok (.iconst 0, 1) := by decide +kernel
theorem d_N_remove_2 : decode b_N_remove 2 = .ok (.iconst 3, 1) := by decide +kernel
theorem d_N_remove_3 : decode b_N_remove 3 = .ok (.invokestatic 116, 3) := by decide +kernel
theorem d_N_remove_6 : decode b_N_remove 6 = .ok (.ifCond .eq 12, 3) := by decide +kernel
theorem d_N_remove_9 : decode b_N_remove 9 = .ok (.iload_n 2, 1) := by decide +kernel
theorem d_N_remove_10 : decode b_N_remove 10 = .ok (.iconst 0, 1) := by decide +kernel
theorem d_N_remove_11 : decode b_N_remove 11 = .ok (.iconst 1, 1) := by decide +kernel
theorem d_N_remove_12 : decode b_N_remove 12 = .ok (.invokestatic 116, 3) := by decide +kernel
theorem d_N_remove_15 : decode b_N_remove 15 = .ok (.ifCond .ne 9, 3) := by decide +kernel
theorem d_N_remove_18 : decode b_N_remove 18 = .ok (.aload_n 0, 1) := by decide +kernel
theorem d_N_remove_19 : decode b_N_remove 19 = .ok (.iconst 1, 1) := by decide +kernel
theorem d_N_remove_20 : decode b_N_remove 20 = .ok (.invokevirtual 122, 3) := by decide +kernel
theorem d_N_remove_23 : decode b_N_remove 23 = .ok (.ireturn, 1) := by decide +kernel
theorem d_N_remove_24 : decode b_N_remove 24 = .ok (.aload_n 0, 1) := by decide +kernel
theorem d_N_remove_25 : decode b_N_remove 25 = .ok (.iload_n 2, 1) := by decide +kernel
theorem d_N_remove_26 : decode b_N_remove 26 = .ok (.iload_n 3, 1) := by decide +kernel
theorem d_N_remove_27 : decode b_N_remove 27 = .ok (.invokevirtual 137, 3) := by decide +kernel
theorem d_N_remove_30 : decode b_N_remove 30 = .ok (.ifCond .eq 9, 3) := by decide +kernel
theorem d_N_remove_33 : decode b_N_remove 33 = .ok (.aload_n 0, 1) := by decide +kernel
theorem d_N_remove_34 : decode b_N_remove 34 = .ok (.iconst 2, 1) := by decide +kernel
theorem d_N_remove_35 : decode b_N_remove 35 = .ok (.invokevirtual 122, 3) := by decide +kernel
theorem d_N_remove_38 : decode b_N_remove 38 = .ok (.ireturn, 1) := by decide +kernel
theorem d_N_remove_39 : decode b_N_remove 39 = .ok (.iload_n 2, 1) := by decide +kernel
theorem d_N_remove_40 : decode b_N_remove 40 = .ok (.ifCond .ne 12, 3) := by decide +kernel
theorem d_N_remove_43 : decode b_N_remove 43 = .ok (.aload_n 0, 1) := by decide +kernel
theorem d_N_remove_44 : decode b_N_remove 44 = .ok (.getfield 28, 3) := by decide +kernel
theorem d_N_remove_47 : decode b_N_remove 47 = .ok (.iload_n 3, 1) := by decide +kernel
theorem d_N_remove_48 : decode b_N_remove 48 = .ok (.iaload, 1) := by decide +kernel
theorem d_N_remove_49 : decode b_N_remove 49 = .ok (.goto 9, 3) := by decide +kernel
theorem d_N_remove_52 : decode b_N_remove 52 = .ok (.aload_n 0, 1) := by decide +kernel
theorem d_N_remove_53 : decode b_N_remove 53 = .ok (.getfield 31, 3) := by decide +kernel
theorem d_N_remove_56 : decode b_N_remove 56 = .ok (.iload_n 3, 1) := by decide +kernel
theorem d_N_remove_57 : decode b_N_remove 57 = .ok (.iaload, 1) := by decide +kernel
theorem d_N_remove_58 : decode b_N_remove 58 = .ok (.iload_n 1, 1) := by decide +kernel
theorem d_N_remove_59 : decode b_N_remove 59 = .ok (.if_icmp .eq 9, 3) := by decide +kernel
theorem d_N_remove_62 : decode b_N_remove 62 = .ok (.aload_n 0, 1) := by decide +kernel
theorem d_N_remove_63 : decode b_N_remove 63 = .ok (.iconst 3, 1) := by decide +kernel
theorem d_N_remove_64 : decode b_N_remove 64 = .ok (.invokevirtual 122, 3) := by decide +kernel
theorem d_N_remove_67 : decode b_N_remove 67 = .ok (.ireturn, 1) := by decide +kernel
theorem d_N_remove_68 : decode b_N_remove 68 = .ok (.aload_n 0, 1) := by decide +kernel
theorem d_N_remove_69 : decode b_N_remove 69 = .ok (.iload_n 2, 1) := by decide +kernel
theorem d_N_remove_70 : decode b_N_remove 70 = .ok (.iload_n 3, 1) := by decide +kernel
theorem d_N_remove_71 : decode b_N_remove 71 = .ok (.invokevirtual 141, 3) := by decide +kernel
theorem d_N_remove_74 : decode b_N_remove 74 = .ok (.ifCond .le 9, 3) := by decide +kernel
theorem d_N_remove_77 : decode b_N_remove 77 = .ok (.aload_n 0, 1) := by decide +kernel
theorem d_N_remove_78 : decode b_N_remove 78 = .ok (.iconst 4, 1) := by decide +kernel
theorem d_N_remove_79 : decode b_N_remove 79 = .ok (.invokevirtual 122, 3) := by decide +kernel
theorem d_N_remove_82 : decode b_N_remove 82 = .ok (.ireturn, 1) := by decide +kernel
theorem d_N_remove_83 : decode b_N_remove 83 = .ok (.iload_n 2, 1) := by decide +kernel
theorem d_N_remove_84 : decode b_N_remove 84 = .ok (.ifCond .ne 13, 3) := by decide +kernel
theorem d_N_remove_87 : decode b_N_remove 87 = .ok (.aload_n 0, 1) := by decide +kernel
theorem d_N_remove_88 : decode b_N_remove 88 = .ok (.getfield 28, 3) := by decide +kernel
theorem d_N_remove_91 : decode b_N_remove 91 = .ok (.iload_n 3, 1) := by decide +kernel
theorem d_N_remove_92 : decode b_N_remove 92 = .ok (.iconst (-1), 1) := by decide +kernel
theorem d_N_remove_93 : decode b_N_remove 93 = .ok (.iastore, 1) := by decide +kernel
theorem d_N_remove_94 : decode b_N_remove 94 = .ok (.goto 10, 3) := by decide +kernel
theorem d_N_remove_97 : decode b_N_remove 97 = .ok (.aload_n 0, 1) := by decide +kernel
theorem d_N_remove_98 : decode b_N_remove 98 = .ok (.getfield 31, 3) := by decide +kernel
theorem d_N_remove_101 : decode b_N_remove 101 = .ok (.iload_n 3, 1) := by decide +kernel
theorem d_N_remove_102 : decode b_N_remove 102 = .ok (.iconst (-1), 1) := by decide +kernel
theorem d_N_remove_103 : decode b_N_remove 103 = .ok (.iastore, 1) := by decide +kernel
theorem d_N_remove_104 : decode b_N_remove 104 = .ok (.aload_n 0, 1) := by decide +kernel
theorem d_N_remove_105 : decode b_N_remove 105 = .ok (.aload_n 0, 1) := by decide +kernel
theorem d_N_remove_106 : decode b_N_remove 106 = .ok (.iload_n 2, 1) := by decide +kernel
theorem d_N_remove_107 : decode b_N_remove 107 = .ok (.invokevirtual 145, 3) := by decide +kernel
theorem d_N_remove_110 : decode b_N_remove 110 = .ok (.invokevirtual 126, 3) := by decide +kernel
theorem d_N_remove_113 : decode b_N_remove 113 = .ok (.ireturn, 1) := by decide +kernel
theorem d_N_barred_0 : decode b_N_barred 0 = .ok (.aload_n 0, 1) := by decide +kernel
theorem d_N_barred_1 : decode b_N_barred 1 = .ok (.iload_n 2, 1) := by decide +kernel
theorem d_N_barred_2 : decode b_N_barred 2 = .ok (.invokevirtual 133, 3) := by decide +kernel
theorem d_N_barred_5 : decode b_N_barred 5 = .ok (.ifCond .eq 5, 3) := by decide +kernel
theorem d_N_barred_8 : decode b_N_barred 8 = .ok (.iconst 2, 1) := by decide +kernel
theorem d_N_barred_9 : decode b_N_barred 9 = .ok (.ireturn, 1) := by decide +kernel
theorem d_N_barred_10 : decode b_N_barred 10 = .ok (.aload_n 0, 1) := by decide +kernel
theorem d_N_barred_11 : decode b_N_barred 11 = .ok (.getfield 40, 3) := by decide +kernel
theorem d_N_barred_14 : decode b_N_barred 14 = .ok (.iload_n 2, 1) := by decide +kernel
theorem d_N_barred_15 : decode b_N_barred 15 = .ok (.iaload, 1) := by decide +kernel
theorem d_N_barred_16 : decode b_N_barred 16 = .ok (.iload_n 1, 1) := by decide +kernel
theorem d_N_barred_17 : decode b_N_barred 17 = .ok (.if_icmp .ne 25, 3) := by decide +kernel
theorem d_N_barred_20 : decode b_N_barred 20 = .ok (.aload_n 0, 1) := by decide +kernel
theorem d_N_barred_21 : decode b_N_barred 21 = .ok (.getfield 49, 3) := by decide +kernel
theorem d_N_barred_24 : decode b_N_barred 24 = .ok (.iload_n 2, 1) := by decide +kernel
theorem d_N_barred_25 : decode b_N_barred 25 = .ok (.iaload, 1) := by decide +kernel
theorem d_N_barred_26 : decode b_N_barred 26 = .ok (.iload_n 3, 1) := by decide +kernel
theorem d_N_barred_27 : decode b_N_barred 27 = .ok (.iand, 1) := by decide +kernel
theorem d_N_barred_28 : decode b_N_barred 28 = .ok (.ifCond .ne 14, 3) := by decide +kernel
theorem d_N_barred_31 : decode b_N_barred 31 = .ok (.aload_n 0, 1) := by decide +kernel
theorem d_N_barred_32 : decode b_N_barred 32 = .ok (.getfield 52, 3) := by decide +kernel
theorem d_N_barred_35 : decode b_N_barred 35 = .ok (.iload_n 2, 1) := by decide +kernel
theorem d_N_barred_36 : decode b_N_barred 36 = .ok (.iaload, 1) := by decide +kernel
theorem d_N_barred_37 : decode b_N_barred 37 = .ok (.iload 4, 2) := by decide +kernel
theorem d_N_barred_39 : decode b_N_barred 39 = .ok (.if_icmp .eq 7, 3) := by decide +kernel
theorem d_N_barred_42 : decode b_N_barred 42 = .ok (.iconst 3, 1) := by decide +kernel
theorem d_N_barred_43 : decode b_N_barred 43 = .ok (.goto 4, 3) := by decide +kernel
theorem d_N_barred_46 : decode b_N_barred 46 = .ok (.iconst 0, 1) := by decide +kernel
theorem d_N_barred_47 : decode b_N_barred 47 = .ok (.ireturn, 1) := by decide +kernel
theorem d_N_create_0 : decode b_N_create 0 = .ok (.iload_n 1, 1) := by decide +kernel
theorem d_N_create_1 : decode b_N_create 1 = .ok (.iconst 0, 1) := by decide +kernel
theorem d_N_create_2 : decode b_N_create 2 = .ok (.iconst 3, 1) := by decide +kernel
theorem d_N_create_3 : decode b_N_create 3 = .ok (.invokestatic 116, 3) := by decide +kernel
theorem d_N_create_6 : decode b_N_create 6 = .ok (.ifCond .eq 33, 3) := by decide +kernel
theorem d_N_create_9 : decode b_N_create 9 = .ok (.iload_n 2, 1) := by decide +kernel
theorem d_N_create_10 : decode b_N_create 10 = .ok (.iconst 0, 1) := by decide +kernel
theorem d_N_create_11 : decode b_N_create 11 = .ok (.bipush 9, 2) := by decide +kernel
theorem d_N_create_13 : decode b_N_create 13 = .ok (.invokestatic 116, 3) := by decide +kernel
theorem d_N_create_16 : decode b_N_create 16 = .ok (.ifCond .eq 23, 3) := by decide +kernel
theorem d_N_create_19 : decode b_N_create 19 = .ok (.iload_n 3, 1) := by decide +kernel
theorem d_N_create_20 : decode b_N_create 20 = .ok (.iconst 1, 1) := by decide +kernel
theorem d_N_create_21 : decode b_N_create 21 = .ok (.iconst 3, 1) := by decide +kernel
theorem d_N_create_22 : decode b_N_create 22 = .ok (.invokestatic 116, 3) := by decide +kernel
theorem d_N_create_25 : decode b_N_create 25 = .ok (.ifCond .eq 14, 3) := by decide +kernel
theorem d_N_create_28 : decode b_N_create 28 = .ok (.iload 4, 2) := by decide +kernel
theorem d_N_create_30 : decode b_N_create 30 = .ok (.iconst 0, 1) := by decide +kernel
theorem d_N_create_31 : decode b_N_create 31 = .ok (.bipush 99, 2) := by decide +kernel
theorem d_N_create_33 : decode b_N_create 33 = .ok (.invokestatic 116, 3) := by decide +kernel
theorem d_N_create_36 : decode b_N_create 36 = .ok (.ifCond .ne 9, 3) := by decide +kernel
theorem d_N_create_39 : decode b_N_create 39 = .ok (.aload_n 0, 1) := by decide +kernel
theorem d_N_create_40 : decode b_N_create 40 = .ok (.iconst 1, 1) := by decide +kernel
theorem d_N_create_41 : decode b_N_create 41 = .ok (.invokevirtual 122, 3) := by decide +kernel
theorem d_N_create_44 : decode b_N_create 44 = .ok (.ireturn, 1) := by decide +kernel
theorem d_N_create_45 : decode b_N_create 45 = .ok (.aload_n 0, 1) := by decide +kernel
theorem d_N_create_46 : decode b_N_create 46 = .ok (.iconst 0, 1) := by decide +kernel
theorem d_N_create_47 : decode b_N_create 47 = .ok (.iload 5, 2) := by decide +kernel
theorem d_N_create_49 : decode b_N_create 49 = .ok (.invokevirtual 137, 3) := by decide +kernel
theorem d_N_create_52 : decode b_N_create 52 = .ok (.ifCond .eq 9, 3) := by decide +kernel
theorem d_N_create_55 : decode b_N_create 55 = .ok (.aload_n 0, 1) := by decide +kernel
theorem d_N_create_56 : decode b_N_create 56 = .ok (.iconst 2, 1) := by decide +kernel
theorem d_N_create_57 : decode b_N_create 57 = .ok (.invokevirtual 122, 3) := by decide +kernel
theorem d_N_create_60 : decode b_N_create 60 = .ok (.ireturn, 1) := by decide +kernel
theorem d_N_create_61 : decode b_N_create 61 = .ok (.aload_n 0, 1) := by decide +kernel
theorem d_N_create_62 : decode b_N_create 62 = .ok (.iload_n 2, 1) := by decide +kernel
theorem d_N_create_63 : decode b_N_create 63 = .ok (.invokevirtual 133, 3) := by decide +kernel
theorem d_N_create_66 : decode b_N_create 66 = .ok (.ifCond .eq 13, 3) := by decide +kernel
theorem d_N_create_69 : decode b_N_create 69 = .ok (.aload_n 0, 1) := by decide +kernel
theorem d_N_create_70 : decode b_N_create 70 = .ok (.iload_n 1, 1) := by decide +kernel
theorem d_N_create_71 : decode b_N_create 71 = .ok (.iconst 0, 1) := by decide +kernel
theorem d_N_create_72 : decode b_N_create 72 = .ok (.iload_n 3, 1) := by decide +kernel
theorem d_N_create_73 : decode b_N_create 73 = .ok (.invokevirtual 148, 3) := by decide +kernel
theorem d_N_create_76 : decode b_N_create 76 = .ok (.ifCond .ne 9, 3) := by decide +kernel
theorem d_N_create_79 : decode b_N_create 79 = .ok (.aload_n 0, 1) := by decide +kernel
theorem d_N_create_80 : decode b_N_create 80 = .ok (.iconst 4, 1) := by decide +kernel
theorem d_N_create_81 : decode b_N_create 81 = .ok (.invokevirtual 122, 3) := by decide +kernel
theorem d_N_create_84 : decode b_N_create 84 = .ok (.ireturn, 1) := by decide +kernel
theorem d_N_create_85 : decode b_N_create 85 = .ok (.aload_n 0, 1) := by decide +kernel
theorem d_N_create_86 : decode b_N_create 86 = .ok (.iload_n 2, 1) := by decide +kernel
theorem d_N_create_87 : decode b_N_create 87 = .ok (.invokevirtual 151, 3) := by decide +kernel
theorem d_N_create_90 : decode b_N_create 90 = .ok (.aload_n 0, 1) := by decide +kernel
theorem d_N_create_91 : decode b_N_create 91 = .ok (.iload_n 1, 1) := by decide +kernel
theorem d_N_create_92 : decode b_N_create 92 = .ok (.iconst 0, 1) := by decide +kernel
theorem d_N_create_93 : decode b_N_create 93 = .ok (.iload_n 3, 1) := by decide +kernel
theorem d_N_create_94 : decode b_N_create 94 = .ok (.iload_n 2, 1) := by decide +kernel
theorem d_N_create_95 : decode b_N_create 95 = .ok (.iconst 0, 1) := by decide +kernel
theorem d_N_create_96 : decode b_N_create 96 = .ok (.invokevirtual 154, 3) := by decide +kernel
theorem d_N_create_99 : decode b_N_create 99 = .ok (.aload_n 0, 1) := by decide +kernel
theorem d_N_create_100 : decode b_N_create 100 = .ok (.getfield 40, 3) := by decide +kernel
theorem d_N_create_103 : decode b_N_create 103 = .ok (.iload_n 2, 1) := by decide +kernel
theorem d_N_create_104 : decode b_N_create 104 = .ok (.iload_n 1, 1) := by decide +kernel
theorem d_N_create_105 : decode b_N_create 105 = .ok (.iastore, 1) := by decide +kernel
theorem d_N_create_106 : decode b_N_create 106 = .ok (.aload_n 0, 1) := by decide +kernel
theorem d_N_create_107 : decode b_N_create 107 = .ok (.getfield 43, 3) := by decide +kernel
theorem d_N_create_110 : decode b_N_create 110 = .ok (.iload_n 2, 1) := by decide +kernel
theorem d_N_create_111 : decode b_N_create 111 = .ok (.aload_n 0, 1) := by decide +kernel
theorem d_N_create_112 : decode b_N_create 112 = .ok (.getfield 98, 3) := by decide +kernel
theorem d_N_create_115 : decode b_N_create 115 = .ok (.bipush 10, 2) := by decide +kernel
theorem d_N_create_117 : decode b_N_create 117 = .ok (.iload_n 3, 1) := by decide +kernel
theorem d_N_create_118 : decode b_N_create 118 = .ok (.imul, 1) := by decide +kernel
theorem d_N_create_119 : decode b_N_create 119 = .ok (.iadd, 1) := by decide +kernel
theorem d_N_create_120 : decode b_N_create 120 = .ok (.iastore, 1) := by decide +kernel
theorem d_N_create_121 : decode b_N_create 121 = .ok (.aload_n 0, 1) := by decide +kernel
theorem d_N_create_122 : decode b_N_create 122 = .ok (.getfield 46, 3) := by decide +kernel
theorem d_N_create_125 : decode b_N_create 125 = .ok (.iload_n 2, 1) := by decide +kernel
theorem d_N_create_126 : decode b_N_create 126 = .ok (.iload 4, 2) := by decide +kernel
theorem d_N_create_128 : decode b_N_create 128 = .ok (.iastore, 1) := by decide +kernel
theorem d_N_create_129 : decode b_N_create 129 = .ok (.aload_n 0, 1) := by decide +kernel
theorem d_N_create_130 : decode b_N_create 130 = .ok (.getfield 49, 3) := by decide +kernel
theorem d_N_create_133 : decode b_N_create 133 = .ok (.iload_n 2, 1) := by decide +kernel
theorem d_N_create_134 : decode b_N_create 134 = .ok (.iconst 0, 1) := by decide +kernel
theorem d_N_create_135 : decode b_N_create 135 = .ok (.iastore, 1) := by decide +kernel
theorem d_N_create_136 : decode b_N_create 136 = .ok (.aload_n 0, 1) := by decide +kernel
theorem d_N_create_137 : decode b_N_create 137 = .ok (.getfield 52, 3) := by decide +kernel
theorem d_N_create_140 : decode b_N_create 140 = .ok (.iload_n 2, 1) := by decide +kernel
theorem d_N_create_141 : decode b_N_create 141 = .ok (.iconst 0, 1) := by decide +kernel
theorem d_N_create_142 : decode b_N_create 142 = .ok (.iastore, 1) := by decide +kernel
theorem d_N_create_143 : decode b_N_create 143 = .ok (.aload_n 0, 1) := by decide +kernel
theorem d_N_create_144 : decode b_N_create 144 = .ok (.getfield 58, 3) := by decide +kernel
theorem d_N_create_147 : decode b_N_create 147 = .ok (.iload_n 2, 1) := by decide +kernel
theorem d_N_create_148 : decode b_N_create 148 = .ok (.iconst (-1), 1) := by decide +kernel
theorem d_N_create_149 : decode b_N_create 149 = .ok (.iastore, 1) := by decide +kernel
theorem d_N_create_150 : decode b_N_create 150 = .ok (.aload_n 0, 1) := by decide +kernel
theorem d_N_create_151 : decode b_N_create 151 = .ok (.getfield 64, 3) := by decide +kernel
theorem d_N_create_154 : decode b_N_create 154 = .ok (.bipush 6, 2) := by decide +kernel
theorem d_N_create_156 : decode b_N_create 156 = .ok (.iload_n 2, 1) := by decide +kernel
theorem d_N_create_157 : decode b_N_create 157 = .ok (.imul, 1) := by decide +kernel
theorem d_N_create_158 : decode b_N_create 158 = .ok (.iload 5, 2) := by decide +kernel
theorem d_N_create_160 : decode b_N_create 160 = .ok (.iastore, 1) := by decide +kernel
theorem d_N_create_161 : decode b_N_create 161 = .ok (.aload_n 0, 1) := by decide +kernel
theorem d_N_create_162 : decode b_N_create 162 = .ok (.getfield 67, 3) := by decide +kernel
theorem d_N_create_165 : decode b_N_create 165 = .ok (.iconst 2, 1) := by decide +kernel
theorem d_N_create_166 : decode b_N_create 166 = .ok (.iload_n 2, 1) := by decide +kernel
theorem d_N_create_167 : decode b_N_create 167 = .ok (.imul, 1) := by decide +kernel
theorem d_N_create_168 : decode b_N_create 168 = .ok (.iconst 1, 1) := by decide +kernel
theorem d_N_create_169 : decode b_N_create 169 = .ok (.iastore, 1) := by decide +kernel
theorem d_N_create_170 : decode b_N_create 170 = .ok (.aload_n 0, 1) := by decide +kernel
theorem d_N_create_171 : decode b_N_create 171 = .ok (.getfield 67, 3) := by decide +kernel
theorem d_N_create_174 : decode b_N_create 174 = .ok (.iconst 2, 1) := by decide +kernel
theorem d_N_create_175 : decode b_N_create 175 = .ok (.iload_n 2, 1) := by decide +kernel
theorem d_N_create_176 : decode b_N_create 176 = .ok (.imul, 1) := by decide +kernel
theorem d_N_create_177 : decode b_N_create 177 = .ok (.iconst 1, 1) := by decide +kernel
theorem d_N_create_178 : decode b_N_create 178 = .ok (.iadd, 1) := by decide +kernel
theorem d_N_create_179 : decode b_N_create 179 = .ok (.iconst 0, 1) := by decide +kernel
theorem d_N_create_180 : decode b_N_create 180 = .ok (.iastore, 1) := by decide +kernel
theorem d_N_create_181 : decode b_N_create 181 = .ok (.aload_n 0, 1) := by decide +kernel
theorem d_N_create_182 : decode b_N_create 182 = .ok (.aload_n 0, 1) := by decide +kernel
theorem d_N_create_183 : decode b_N_create 183 = .ok (.getfield 43, 3) := by decide +kernel
theorem d_N_create_186 : decode b_N_create 186 = .ok (.iload_n 2, 1) := by decide +kernel
theorem d_N_create_187 : decode b_N_create 187 = .ok (.iaload, 1) := by decide +kernel
theorem d_N_create_188 : decode b_N_create 188 = .ok (.invokevirtual 126, 3) := by decide +kernel
theorem d_N_create_191 : decode b_N_create 191 = .ok (.ireturn, 1) := by decide +kernel
theorem d_N_change_0 : decode b_N_change 0 = .ok (.iload_n 1, 1) := by decide +kernel
theorem d_N_change_1 : decode b_N_change 1 = .ok (.iconst 0, 1) := by decide +kernel
theorem d_N_change_2 : decode b_N_change 2 = .ok (.iconst 3, 1) := by decide +kernel
theorem d_N_change_3 : decode b_N_change 3 = .ok (.invokestatic 116, 3) := by decide +kernel
theorem d_N_change_6 : decode b_N_change 6 = .ok (.ifCond .eq 22, 3) := by decide +kernel
theorem d_N_change_9 : decode b_N_change 9 = .ok (.iload_n 2, 1) := by decide +kernel
theorem d_N_change_10 : decode b_N_change 10 = .ok (.iconst 0, 1) := by decide +kernel
theorem d_N_change_11 : decode b_N_change 11 = .ok (.bipush 9, 2) := by decide +kernel
theorem d_N_change_13 : decode b_N_change 13 = .ok (.invokestatic 116, 3) := by decide +kernel
theorem d_N_change_16 : decode b_N_change 16 = .ok (.ifCond .eq 12, 3) := by decide +kernel
theorem d_N_change_19 : decode b_N_change 19 = .ok (.iload_n 3, 1) := by decide +kernel
theorem d_N_change_20 : decode b_N_change 20 = .ok (.iconst 0, 1) := by decide +kernel
theorem d_N_change_21 : decode b_N_change 21 = .ok (.iconst 1, 1) := by decide +kernel
theorem d_N_change_22 : decode b_N_change 22 = .ok (.invokestatic 116, 3) := by decide +kernel
theorem d_N_change_25 : decode b_N_change 25 = .ok (.ifCond .ne 9, 3) := by decide +kernel
theorem d_N_change_28 : decode b_N_change 28 = .ok (.aload_n 0, 1) := by decide +kernel
theorem d_N_change_29 : decode b_N_change 29 = .ok (.iconst 1, 1) := by decide +kernel
theorem d_N_change_30 : decode b_N_change 30 = .ok (.invokevirtual 122, 3) := by decide +kernel
theorem d_N_change_33 : decode b_N_change 33 = .ok (.ireturn, 1) := by decide +kernel
theorem d_N_change_34 : decode b_N_change 34 = .ok (.aload_n 0, 1) := by decide +kernel
theorem d_N_change_35 : decode b_N_change 35 = .ok (.iload_n 2, 1) := by decide +kernel
theorem d_N_change_36 : decode b_N_change 36 = .ok (.invokevirtual 133, 3) := by decide +kernel
theorem d_N_change_39 : decode b_N_change 39 = .ok (.ifCond .ne 13, 3) := by decide +kernel
theorem d_N_change_42 : decode b_N_change 42 = .ok (.aload_n 0, 1) := by decide +kernel
theorem d_N_change_43 : decode b_N_change 43 = .ok (.iload_n 3, 1) := by decide +kernel
theorem d_N_change_44 : decode b_N_change 44 = .ok (.iload 4, 2) := by decide +kernel
theorem d_N_change_46 : decode b_N_change 46 = .ok (.invokevirtual 137, 3) := by decide +kernel
theorem d_N_change_49 : decode b_N_change 49 = .ok (.ifCond .eq 9, 3) := by decide +kernel
theorem d_N_change_52 : decode b_N_change 52 = .ok (.aload_n 0, 1) := by decide +kernel
theorem d_N_change_53 : decode b_N_change 53 = .ok (.iconst 2, 1) := by decide +kernel
theorem d_N_change_54 : decode b_N_change 54 = .ok (.invokevirtual 122, 3) := by decide +kernel
theorem d_N_change_57 : decode b_N_change 57 = .ok (.ireturn, 1) := by decide +kernel
theorem d_N_change_58 : decode b_N_change 58 = .ok (.aload_n 0, 1) := by decide +kernel
theorem d_N_change_59 : decode b_N_change 59 = .ok (.iload_n 1, 1) := by decide +kernel
theorem d_N_change_60 : decode b_N_change 60 = .ok (.iload_n 2, 1) := by decide +kernel
theorem d_N_change_61 : decode b_N_change 61 = .ok (.iconst 1, 1) := by decide +kernel
theorem d_N_change_62 : decode b_N_change 62 = .ok (.iconst 0, 1) := by decide +kernel
theorem d_N_change_63 : decode b_N_change 63 = .ok (.invokevirtual 158, 3) := by decide +kernel
theorem d_N_change_66 : decode b_N_change 66 = .ok (.istore 6, 2) := by decide +kernel
theorem d_N_change_68 : decode b_N_change 68 = .ok (.iload 6, 2) := by decide +kernel
theorem d_N_change_70 : decode b_N_change 70 = .ok (.ifCond .le 10, 3) := by decide +kernel
theorem d_N_change_73 : decode b_N_change 73 = .ok (.aload_n 0, 1) := by decide +kernel
theorem d_N_change_74 : decode b_N_change 74 = .ok (.iload 6, 2) := by decide +kernel
theorem d_N_change_76 : decode b_N_change 76 = .ok (.invokevirtual 122, 3) := by decide +kernel
theorem d_N_change_79 : decode b_N_change 79 = .ok (.ireturn, 1) := by decide +kernel
theorem d_N_change_80 : decode b_N_change 80 = .ok (.aload_n 0, 1) := by decide +kernel
theorem d_N_change_81 : decode b_N_change 81 = .ok (.iload_n 2, 1) := by decide +kernel
theorem d_N_change_82 : decode b_N_change 82 = .ok (.iload_n 3, 1) := by decide +kernel
theorem d_N_change_83 : decode b_N_change 83 = .ok (.iload 4, 2) := by decide +kernel
theorem d_N_change_85 : decode b_N_change 85 = .ok (.invokevirtual 105, 3) := by decide +kernel
theorem d_N_change_88 : decode b_N_change 88 = .ok (.istore 7, 2) := by decide +kernel
theorem d_N_change_90 : decode b_N_change 90 = .ok (.aload_n 0, 1) := by decide +kernel
theorem d_N_change_91 : decode b_N_change 91 = .ok (.getfield 67, 3) := by decide +kernel
theorem d_N_change_94 : decode b_N_change 94 = .ok (.iconst 2, 1) := by decide +kernel
theorem d_N_change_95 : decode b_N_change 95 = .ok (.iload_n 2, 1) := by decide +kernel
theorem d_N_change_96 : decode b_N_change 96 = .ok (.imul, 1) := by decide +kernel
theorem d_N_change_97 : decode b_N_change 97 = .ok (.iload_n 3, 1) := by decide +kernel
theorem d_N_change_98 : decode b_N_change 98 = .ok (.iadd, 1) := by decide +kernel
theorem d_N_change_99 : decode b_N_change 99 = .ok (.iaload, 1) := by decide +kernel
theorem d_N_change_100 : decode b_N_change 100 = .ok (.istore 8, 2) := by decide +kernel
theorem d_N_change_102 : decode b_N_change 102 = .ok (.iload 5, 2) := by decide +kernel
theorem d_N_change_104 : decode b_N_change 104 = .ok (.ifCond .eq 17, 3) := by decide +kernel
theorem d_N_change_107 : decode b_N_change 107 = .ok (.iload 7, 2) := by decide +kernel
theorem d_N_change_109 : decode b_N_change 109 = .ok (.ifCond .ge 27, 3) := by decide +kernel
theorem d_N_change_112 : decode b_N_change 112 = .ok (.iload 8, 2) := by decide +kernel
theorem d_N_change_114 : decode b_N_change 114 = .ok (.iconst 3, 1) := by decide +kernel
theorem d_N_change_115 : decode b_N_change 115 = .ok (.if_icmp .ne 27, 3) := by decide +kernel
theorem d_N_change_118 : decode b_N_change 118 = .ok (.goto 18, 3) := by decide +kernel
theorem d_N_change_121 : decode b_N_change 121 = .ok (.iload 7, 2) := by decide +kernel
theorem d_N_change_123 : decode b_N_change 123 = .ok (.ifCond .lt 13, 3) := by decide +kernel
theorem d_N_change_126 : decode b_N_change 126 = .ok (.iload_n 3, 1) := by decide +kernel
theorem d_N_change_127 : decode b_N_change 127 = .ok (.ifCond .ne 15, 3) := by decide +kernel
theorem d_N_change_130 : decode b_N_change 130 = .ok (.iload 8, 2) := by decide +kernel
theorem d_N_change_132 : decode b_N_change 132 = .ok (.iconst 1, 1) := by decide +kernel
theorem d_N_change_133 : decode b_N_change 133 = .ok (.if_icmp .ne 9, 3) := by decide +kernel
theorem d_N_change_136 : decode b_N_change 136 = .ok (.aload_n 0, 1) := by decide +kernel
theorem d_N_change_137 : decode b_N_change 137 = .ok (.iconst 4, 1) := by decide +kernel
theorem d_N_change_138 : decode b_N_change 138 = .ok (.invokevirtual 122, 3) := by decide +kernel
theorem d_N_change_141 : decode b_N_change 141 = .ok (.ireturn, 1) := by decide +kernel
theorem d_N_change_142 : decode b_N_change 142 = .ok (.iload 5, 2) := by decide +kernel
theorem d_N_change_144 : decode b_N_change 144 = .ok (.ifCond .eq 38, 3) := by decide +kernel
theorem d_N_change_147 : decode b_N_change 147 = .ok (.aload_n 0, 1) := by decide +kernel
theorem d_N_change_148 : decode b_N_change 148 = .ok (.getfield 64, 3) := by decide +kernel
theorem d_N_change_151 : decode b_N_change 151 = .ok (.bipush 6, 2) := by decide +kernel
theorem d_N_change_153 : decode b_N_change 153 = .ok (.iload_n 2, 1) := by decide +kernel
theorem d_N_change_154 : decode b_N_change 154 = .ok (.imul, 1) := by decide +kernel
theorem d_N_change_155 : decode b_N_change 155 = .ok (.iconst 3, 1) := by decide +kernel
theorem d_N_change_156 : decode b_N_change 156 = .ok (.iload_n 3, 1) := by decide +kernel
theorem d_N_change_157 : decode b_N_change 157 = .ok (.imul, 1) := by decide +kernel
theorem d_N_change_158 : decode b_N_change 158 = .ok (.iadd, 1) := by decide +kernel
theorem d_N_change_159 : decode b_N_change 159 = .ok (.iload 8, 2) := by decide +kernel
theorem d_N_change_161 : decode b_N_change 161 = .ok (.iadd, 1) := by decide +kernel
theorem d_N_change_162 : decode b_N_change 162 = .ok (.iload 4, 2) := by decide +kernel
theorem d_N_change_164 : decode b_N_change 164 = .ok (.iastore, 1) := by decide +kernel
theorem d_N_change_165 : decode b_N_change 165 = .ok (.aload_n 0, 1) := by decide +kernel
theorem d_N_change_166 : decode b_N_change 166 = .ok (.getfield 67, 3) := by decide +kernel
theorem d_N_change_169 : decode b_N_change 169 = .ok (.iconst 2, 1) := by decide +kernel
theorem d_N_change_170 : decode b_N_change 170 = .ok (.iload_n 2, 1) := by decide +kernel
theorem d_N_change_171 : decode b_N_change 171 = .ok (.imul, 1) := by decide +kernel
theorem d_N_change_172 : decode b_N_change 172 = .ok (.iload_n 3, 1) := by decide +kernel
theorem d_N_change_173 : decode b_N_change 173 = .ok (.iadd, 1) := by decide +kernel
theorem d_N_change_174 : decode b_N_change 174 = .ok (.dup2, 1) := by decide +kernel
theorem d_N_change_175 : decode b_N_change 175 = .ok (.iaload, 1) := by decide +kernel
theorem d_N_change_176 : decode b_N_change 176 = .ok (.iconst 1, 1) := by decide +kernel
theorem d_N_change_177 : decode b_N_change 177 = .ok (.iadd, 1) := by decide +kernel
theorem d_N_change_178 : decode b_N_change 178 = .ok (.iastore, 1) := by decide +kernel
theorem d_N_change_179 : decode b_N_change 179 = .ok (.goto 11, 3) := by decide +kernel
theorem d_N_change_182 : decode b_N_change 182 = .ok (.aload_n 0, 1) := by decide +kernel
theorem d_N_change_183 : decode b_N_change 183 = .ok (.iload_n 2, 1) := by decide +kernel
theorem d_N_change_184 : decode b_N_change 184 = .ok (.iload_n 3, 1) := by decide +kernel
theorem d_N_change_185 : decode b_N_change 185 = .ok (.iload 7, 2) := by decide +kernel
theorem d_N_change_187 : decode b_N_change 187 = .ok (.invokevirtual 109, 3) := by decide +kernel
theorem d_N_change_190 : decode b_N_change 190 = .ok (.aload_n 0, 1) := by decide +kernel
theorem d_N_change_191 : decode b_N_change 191 = .ok (.aload_n 0, 1) := by decide +kernel
theorem d_N_change_192 : decode b_N_change 192 = .ok (.getfield 67, 3) := by decide +kernel
theorem d_N_change_195 : decode b_N_change 195 = .ok (.iconst 2, 1) := by decide +kernel
theorem d_N_change_196 : decode b_N_change 196 = .ok (.iload_n 2, 1) := by decide +kernel
theorem d_N_change_197 : decode b_N_change 197 = .ok (.imul, 1) := by decide +kernel
theorem d_N_change_198 : decode b_N_change 198 = .ok (.iload_n 3, 1) := by decide +kernel
theorem d_N_change_199 : decode b_N_change 199 = .ok (.iadd, 1) := by decide +kernel
theorem d_N_change_200 : decode b_N_change 200 = .ok (.iaload, 1) := by decide +kernel
theorem d_N_change_201 : decode b_N_change 201 = .ok (.invokevirtual 126, 3) := by decide +kernel
theorem d_N_change_204 : decode b_N_change 204 = .ok (.ireturn, 1) := by decide +kernel
theorem d_N_lock_0 : decode b_N_lock 0 = .ok (.iload_n 1, 1) := by decide +kernel
theorem d_N_lock_1 : decode b_N_lock 1 = .ok (.iconst 0, 1) := by decide +kernel
theorem d_N_lock_2 : decode b_N_lock 2 = .ok (.iconst 3, 1) := by decide +kernel
theorem d_N_lock_3 : decode b_N_lock 3 = .ok (.invokestatic 116, 3) := by decide +kernel
theorem d_N_lock_6 : decode b_N_lock 6 = .ok (.ifCond .eq 23, 3) := by decide +kernel
theorem d_N_lock_9 : decode b_N_lock 9 = .ok (.iload_n 2, 1) := by decide +kernel
theorem d_N_lock_10 : decode b_N_lock 10 = .ok (.iconst 0, 1) := by decide +kernel
theorem d_N_lock_11 : decode b_N_lock 11 = .ok (.bipush 9, 2) := by decide +kernel
theorem d_N_lock_13 : decode b_N_lock 13 = .ok (.invokestatic 116, 3) := by decide +kernel
theorem d_N_lock_16 : decode b_N_lock 16 = .ok (.ifCond .eq 13, 3) := by decide +kernel
theorem d_N_lock_19 : decode b_N_lock 19 = .ok (.iload_n 3, 1) := by decide +kernel
theorem d_N_lock_20 : decode b_N_lock 20 = .ok (.iconst 0, 1) := by decide +kernel
theorem d_N_lock_21 : decode b_N_lock 21 = .ok (.bipush 31, 2) := by decide +kernel
theorem d_N_lock_23 : decode b_N_lock 23 = .ok (.invokestatic 116, 3) := by decide +kernel
theorem d_N_lock_26 : decode b_N_lock 26 = .ok (.ifCond .ne 9, 3) := by decide +kernel
theorem d_N_lock_29 : decode b_N_lock 29 = .ok (.aload_n 0, 1) := by decide +kernel
theorem d_N_lock_30 : decode b_N_lock 30 = .ok (.iconst 1, 1) := by decide +kernel
theorem d_N_lock_31 : decode b_N_lock 31 = .ok (.invokevirtual 122, 3) := by decide +kernel
theorem d_N_lock_34 : decode b_N_lock 34 = .ok (.ireturn, 1) := by decide +kernel
theorem d_N_lock_35 : decode b_N_lock 35 = .ok (.aload_n 0, 1) := by decide +kernel
theorem d_N_lock_36 : decode b_N_lock 36 = .ok (.iload_n 1, 1) := by decide +kernel
theorem d_N_lock_37 : decode b_N_lock 37 = .ok (.iload_n 2, 1) := by decide +kernel
theorem d_N_lock_38 : decode b_N_lock 38 = .ok (.iconst 0, 1) := by decide +kernel
theorem d_N_lock_39 : decode b_N_lock 39 = .ok (.iconst 0, 1) := by decide +kernel
theorem d_N_lock_40 : decode b_N_lock 40 = .ok (.invokevirtual 158, 3) := by decide +kernel
theorem d_N_lock_43 : decode b_N_lock 43 = .ok (.istore 4, 2) := by decide +kernel
theorem d_N_lock_45 : decode b_N_lock 45 = .ok (.iload 4, 2) := by decide +kernel
theorem d_N_lock_47 : decode b_N_lock 47 = .ok (.ifCond .le 10, 3) := by decide +kernel
theorem d_N_lock_50 : decode b_N_lock 50 = .ok (.aload_n 0, 1) := by decide +kernel
theorem d_N_lock_51 : decode b_N_lock 51 = .ok (.iload 4, 2) := by decide +kernel
theorem d_N_lock_53 : decode b_N_lock 53 = .ok (.invokevirtual 122, 3) := by decide +kernel
theorem d_N_lock_56 : decode b_N_lock 56 = .ok (.ireturn, 1) := by decide +kernel
theorem d_N_lock_57 : decode b_N_lock 57 = .ok (.aload_n 0, 1) := by decide +kernel
theorem d_N_lock_58 : decode b_N_lock 58 = .ok (.getfield 49, 3) := by decide +kernel
theorem d_N_lock_61 : decode b_N_lock 61 = .ok (.iload_n 2, 1) := by decide +kernel
theorem d_N_lock_62 : decode b_N_lock 62 = .ok (.iaload, 1) := by decide +kernel
theorem d_N_lock_63 : decode b_N_lock 63 = .ok (.istore 5, 2) := by decide +kernel
theorem d_N_lock_65 : decode b_N_lock 65 = .ok (.aload_n 0, 1) := by decide +kernel
theorem d_N_lock_66 : decode b_N_lock 66 = .ok (.getfield 49, 3) := by decide +kernel
theorem d_N_lock_69 : decode b_N_lock 69 = .ok (.iload_n 2, 1) := by decide +kernel
theorem d_N_lock_70 : decode b_N_lock 70 = .ok (.iload_n 3, 1) := by decide +kernel
theorem d_N_lock_71 : decode b_N_lock 71 = .ok (.iastore, 1) := by decide +kernel
theorem d_N_lock_72 : decode b_N_lock 72 = .ok (.aload_n 0, 1) := by decide +kernel
theorem d_N_lock_73 : decode b_N_lock 73 = .ok (.iload 5, 2) := by decide +kernel
theorem d_N_lock_75 : decode b_N_lock 75 = .ok (.invokevirtual 126, 3) := by decide +kernel
theorem d_N_lock_78 : decode b_N_lock 78 = .ok (.ireturn, 1) := by decide +kernel
theorem d_N_renew_0 : decode b_N_renew 0 = .ok (.iload_n 1, 1) := by decide +kernel
theorem d_N_renew_1 : decode b_N_renew 1 = .ok (.iconst 0, 1) := by decide +kernel
theorem d_N_renew_2 : decode b_N_renew 2 = .ok (.iconst 3, 1) := by decide +kernel
theorem d_N_renew_3 : decode b_N_renew 3 = .ok (.invokestatic 116, 3) := by decide +kernel
theorem d_N_renew_6 : decode b_N_renew 6 = .ok (.ifCond .eq 22, 3) := by decide +kernel
theorem d_N_renew_9 : decode b_N_renew 9 = .ok (.iload_n 2, 1) := by decide +kernel
theorem d_N_renew_10 : decode b_N_renew 10 = .ok (.iconst 0, 1) := by decide +kernel
theorem d_N_renew_11 : decode b_N_renew 11 = .ok (.bipush 9, 2) := by decide +kernel
theorem d_N_renew_13 : decode b_N_renew 13 = .ok (.invokestatic 116, 3) := by decide +kernel
theorem d_N_renew_16 : decode b_N_renew 16 = .ok (.ifCond .eq 12, 3) := by decide +kernel
theorem d_N_renew_19 : decode b_N_renew 19 = .ok (.iload_n 3, 1) := by decide +kernel
theorem d_N_renew_20 : decode b_N_renew 20 = .ok (.iconst 1, 1) := by decide +kernel
theorem d_N_renew_21 : decode b_N_renew 21 = .ok (.iconst 3, 1) := by decide +kernel
theorem d_N_renew_22 : decode b_N_renew 22 = .ok (.invokestatic 116, 3) := by decide +kernel
theorem d_N_renew_25 : decode b_N_renew 25 = .ok (.ifCond .ne 9, 3) := by decide +kernel
theorem d_N_renew_28 : decode b_N_renew 28 = .ok (.aload_n 0, 1) := by decide +kernel
theorem d_N_renew_29 : decode b_N_renew 29 = .ok (.iconst 1, 1) := by decide +kernel
theorem d_N_renew_30 : decode b_N_renew 30 = .ok (.invokevirtual 122, 3) := by decide +kernel
theorem d_N_renew_33 : decode b_N_renew 33 = .ok (.ireturn, 1) := by decide +kernel
theorem d_N_renew_34 : decode b_N_renew 34 = .ok (.aload_n 0, 1) := by decide +kernel
theorem d_N_renew_35 : decode b_N_renew 35 = .ok (.iload_n 1, 1) := by decide +kernel
theorem d_N_renew_36 : decode b_N_renew 36 = .ok (.iload_n 2, 1) := by decide +kernel
theorem d_N_renew_37 : decode b_N_renew 37 = .ok (.bipush 8, 2) := by decide +kernel
theorem d_N_renew_39 : decode b_N_renew 39 = .ok (.iconst 0, 1) := by decide +kernel
theorem d_N_renew_40 : decode b_N_renew 40 = .ok (.invokevirtual 158, 3) := by decide +kernel
theorem d_N_renew_43 : decode b_N_renew 43 = .ok (.istore 4, 2) := by decide +kernel
theorem d_N_renew_45 : decode b_N_renew 45 = .ok (.iload 4, 2) := by decide +kernel
theorem d_N_renew_47 : decode b_N_renew 47 = .ok (.ifCond .le 10, 3) := by decide +kernel
theorem d_N_renew_50 : decode b_N_renew 50 = .ok (.aload_n 0, 1) := by decide +kernel
theorem d_N_renew_51 : decode b_N_renew 51 = .ok (.iload 4, 2) := by decide +kernel
theorem d_N_renew_53 : decode b_N_renew 53 = .ok (.invokevirtual 122, 3) := by decide +kernel
theorem d_N_renew_56 : decode b_N_renew 56 = .ok (.ireturn, 1) := by decide +kernel
theorem d_N_renew_57 : decode b_N_renew 57 = .ok (.aload_n 0, 1) := by decide +kernel
theorem d_N_renew_58 : decode b_N_renew 58 = .ok (.getfield 58, 3) := by decide +kernel
theorem d_N_renew_61 : decode b_N_renew 61 = .ok (.iload_n 2, 1) := by decide +kernel
theorem d_N_renew_62 : decode b_N_renew 62 = .ok (.iaload, 1) := by decide +kernel
theorem d_N_renew_63 : decode b_N_renew 63 = .ok (.ifCond .ge 34, 3) := by decide +kernel
theorem d_N_renew_66 : decode b_N_renew 66 = .ok (.aload_n 0, 1) := by decide +kernel
theorem d_N_renew_67 : decode b_N_renew 67 = .ok (.getfield 43, 3) := by decide +kernel
theorem d_N_renew_70 : decode b_N_renew 70 = .ok (.iload_n 2, 1) := by decide +kernel
theorem d_N_renew_71 : decode b_N_renew 71 = .ok (.iaload, 1) := by decide +kernel
theorem d_N_renew_72 : decode b_N_renew 72 = .ok (.bipush 10, 2) := by decide +kernel
theorem d_N_renew_74 : decode b_N_renew 74 = .ok (.iload_n 3, 1) := by decide +kernel
theorem d_N_renew_75 : decode b_N_renew 75 = .ok (.imul, 1) := by decide +kernel
theorem d_N_renew_76 : decode b_N_renew 76 = .ok (.iadd, 1) := by decide +kernel
theorem d_N_renew_77 : decode b_N_renew 77 = .ok (.aload_n 0, 1) := by decide +kernel
theorem d_N_renew_78 : decode b_N_renew 78 = .ok (.getfield 98, 3) := by decide +kernel
theorem d_N_renew_81 : decode b_N_renew 81 = .ok (.bipush 50, 2) := by decide +kernel
theorem d_N_renew_83 : decode b_N_renew 83 = .ok (.iadd, 1) := by decide +kernel
theorem d_N_renew_84 : decode b_N_renew 84 = .ok (.if_icmp .gt 13, 3) := by decide +kernel
theorem d_N_renew_87 : decode b_N_renew 87 = .ok (.aload_n 0, 1) := by decide +kernel
theorem d_N_renew_88 : decode b_N_renew 88 = .ok (.iload_n 1, 1) := by decide +kernel
theorem d_N_renew_89 : decode b_N_renew 89 = .ok (.iconst 1, 1) := by decide +kernel
theorem d_N_renew_90 : decode b_N_renew 90 = .ok (.iload_n 3, 1) := by decide +kernel
theorem d_N_renew_91 : decode b_N_renew 91 = .ok (.invokevirtual 148, 3) := by decide +kernel
theorem d_N_renew_94 : decode b_N_renew 94 = .ok (.ifCond .ne 9, 3) := by decide +kernel
theorem d_N_renew_97 : decode b_N_renew 97 = .ok (.aload_n 0, 1) := by decide +kernel
theorem d_N_renew_98 : decode b_N_renew 98 = .ok (.iconst 4, 1) := by decide +kernel
theorem d_N_renew_99 : decode b_N_renew 99 = .ok (.invokevirtual 122, 3) := by decide +kernel
theorem d_N_renew_102 : decode b_N_renew 102 = .ok (.ireturn, 1) := by decide +kernel
theorem d_N_renew_103 : decode b_N_renew 103 = .ok (.aload_n 0, 1) := by decide +kernel
theorem d_N_renew_104 : decode b_N_renew 104 = .ok (.iload_n 1, 1) := by decide +kernel
theorem d_N_renew_105 : decode b_N_renew 105 = .ok (.iconst 1, 1) := by decide +kernel
theorem d_N_renew_106 : decode b_N_renew 106 = .ok (.iload_n 3, 1) := by decide +kernel
theorem d_N_renew_107 : decode b_N_renew 107 = .ok (.iload_n 2, 1) := by decide +kernel
theorem d_N_renew_108 : decode b_N_renew 108 = .ok (.iconst 1, 1) := by decide +kernel
theorem d_N_renew_109 : decode b_N_renew 109 = .ok (.invokevirtual 154, 3) := by decide +kernel
theorem d_N_renew_112 : decode b_N_renew 112 = .ok (.aload_n 0, 1) := by decide +kernel
theorem d_N_renew_113 : decode b_N_renew 113 = .ok (.getfield 43, 3) := by decide +kernel
theorem d_N_renew_116 : decode b_N_renew 116 = .ok (.iload_n 2, 1) := by decide +kernel
theorem d_N_renew_117 : decode b_N_renew 117 = .ok (.dup2, 1) := by decide +kernel
theorem d_N_renew_118 : decode b_N_renew 118 = .ok (.iaload, 1) := by decide +kernel
theorem d_N_renew_119 : decode b_N_renew 119 = .ok (.bipush 10, 2) := by decide +kernel
theorem d_N_renew_121 : decode b_N_renew 121 = .ok (.iload_n 3, 1) := by decide +kernel
theorem d_N_renew_122 : decode b_N_renew 122 = .ok (.imul, 1) := by decide +kernel
theorem d_N_renew_123 : decode b_N_renew 123 = .ok (.iadd, 1) := by decide +kernel
theorem d_N_renew_124 : decode b_N_renew 124 = .ok (.iastore, 1) := by decide +kernel
theorem d_N_renew_125 : decode b_N_renew 125 = .ok (.aload_n 0, 1) := by decide +kernel
theorem d_N_renew_126 : decode b_N_renew 126 = .ok (.aload_n 0, 1) := by decide +kernel
theorem d_N_renew_127 : decode b_N_renew 127 = .ok (.getfield 43, 3) := by decide +kernel
theorem d_N_renew_130 : decode b_N_renew 130 = .ok (.iload_n 2, 1) := by decide +kernel
theorem d_N_renew_131 : decode b_N_renew 131 = .ok (.iaload, 1) := by decide +kernel
theorem d_N_renew_132 : decode b_N_renew 132 = .ok (.invokevirtual 126, 3) := by decide +kernel
theorem d_N_renew_135 : decode b_N_renew 135 = .ok (.ireturn, 1) := by decide +kernel
theorem d_N_neededElsewhere_0 : decode b_N_neededElsewhere 0 = .ok (.iconst 0, 1) := by decide +kernel
theorem d_N_neededElsewhere_1 : decode b_N_neededElsewhere 1 = .ok (.istore_n 2, 1) := by decide +kernel
theorem d_N_neededElsewhere_2 : decode b_N_neededElsewhere 2 = .ok (.iload_n 2, 1) := by decide +kernel
theorem d_N_neededElsewhere_3 : decode b_N_neededElsewhere 3 = .ok (.aload_n 0, 1) := by decide +kernel
theorem d_N_neededElsewhere_4 : decode b_N_neededElsewhere 4 = .ok (.getfield 85, 3) := by decide +kernel
theorem d_N_neededElsewhere_7 : decode b_N_neededElsewhere 7 = .ok (.if_icmp .ge 59, 3) := by decide +kernel
theorem d_N_neededElsewhere_10 : decode b_N_neededElsewhere 10 = .ok (.aload_n 0, 1) := by decide +kernel
theorem d_N_neededElsewhere_11 : decode b_N_neededElsewhere 11 = .ok (.getfield 31, 3) := by decide +kernel
theorem d_N_neededElsewhere_14 : decode b_N_neededElsewhere 14 = .ok (.iload_n 2, 1) := by decide +kernel
theorem d_N_neededElsewhere_15 : decode b_N_neededElsewhere 15 = .ok (.iaload, 1) := by decide +kernel
theorem d_N_neededElsewhere_16 : decode b_N_neededElsewhere 16 = .ok (.ifCond .lt 44, 3) := by decide +kernel
theorem d_N_neededElsewhere_19 : decode b_N_neededElsewhere 19 = .ok (.aload_n 0, 1) := by decide +kernel
theorem d_N_neededElsewhere_20 : decode b_N_neededElsewhere 20 = .ok (.getfield 37, 3) := by decide +kernel
theorem d_N_neededElsewhere_23 : decode b_N_neededElsewhere 23 = .ok (.iload_n 2, 1) := by decide +kernel
theorem d_N_neededElsewhere_24 : decode b_N_neededElsewhere 24 = .ok (.iaload, 1) := by decide +kernel
theorem d_N_neededElsewhere_25 : decode b_N_neededElsewhere 25 = .ok (.iload_n 1, 1) := by decide +kernel
theorem d_N_neededElsewhere_26 : decode b_N_neededElsewhere 26 = .ok (.if_icmp .eq 6, 3) := by decide +kernel
theorem d_N_neededElsewhere_29 : decode b_N_neededElsewhere 29 = .ok (.goto 31, 3) := by decide +kernel
theorem d_N_neededElsewhere_32 : decode b_N_neededElsewhere 32 = .ok (.aload_n 0, 1) := by decide +kernel
theorem d_N_neededElsewhere_33 : decode b_N_neededElsewhere 33 = .ok (.iload_n 1, 1) := by decide +kernel
theorem d_N_neededElsewhere_34 : decode b_N_neededElsewhere 34 = .ok (.iconst 1, 1) := by decide +kernel
theorem d_N_neededElsewhere_35 : decode b_N_neededElsewhere 35 = .ok (.iload_n 2, 1) := by decide +kernel
theorem d_N_neededElsewhere_36 : decode b_N_neededElsewhere 36 = .ok (.invokevirtual 105, 3) := by decide +kernel
theorem d_N_neededElsewhere_39 : decode b_N_neededElsewhere 39 = .ok (.ifCond .lt 7, 3) := by decide +kernel
theorem d_N_neededElsewhere_42 : decode b_N_neededElsewhere 42 = .ok (.iconst 1, 1) := by decide +kernel
theorem d_N_neededElsewhere_43 : decode b_N_neededElsewhere 43 = .ok (.goto 4, 3) := by decide +kernel
theorem d_N_neededElsewhere_46 : decode b_N_neededElsewhere 46 = .ok (.iconst 0, 1) := by decide +kernel
theorem d_N_neededElsewhere_47 : decode b_N_neededElsewhere 47 = .ok (.istore_n 3, 1) := by decide +kernel
theorem d_N_neededElsewhere_48 : decode b_N_neededElsewhere 48 = .ok (.aload_n 0, 1) := by decide +kernel
theorem d_N_neededElsewhere_49 : decode b_N_neededElsewhere 49 = .ok (.iconst 1, 1) := by decide +kernel
theorem d_N_neededElsewhere_50 : decode b_N_neededElsewhere 50 = .ok (.iload_n 2, 1) := by decide +kernel
theorem d_N_neededElsewhere_51 : decode b_N_neededElsewhere 51 = .ok (.invokevirtual 141, 3) := by decide +kernel
theorem d_N_neededElsewhere_54 : decode b_N_neededElsewhere 54 = .ok (.iload_n 3, 1) := by decide +kernel
theorem d_N_neededElsewhere_55 : decode b_N_neededElsewhere 55 = .ok (.if_icmp .le 5, 3) := by decide +kernel
theorem d_N_neededElsewhere_58 : decode b_N_neededElsewhere 58 = .ok (.iconst 1, 1) := by decide +kernel
theorem d_N_neededElsewhere_59 : decode b_N_neededElsewhere 59 = .ok (.ireturn, 1) := by decide +kernel
theorem d_N_neededElsewhere_60 : decode b_N_neededElsewhere 60 = .ok (.iinc 2 1, 3) := by decide +kernel
theorem d_N_neededElsewhere_63 : decode b_N_neededElsewhere 63 = .ok (.goto (-61), 3) := by decide +kernel
theorem d_N_neededElsewhere_66 : decode b_N_neededElsewhere 66 = .ok (.iconst 0, 1) := by decide +kernel
theorem d_N_neededElsewhere_67 : decode b_N_neededElsewhere 67 = .ok (.ireturn, 1) := by decide +kernel
