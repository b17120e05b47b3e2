theorem d_N_delete_0 : decode b_N_delete 0 = .ok (.iload_n 1, 1) := by decide +kernel
theorem d_N_delete_1 : decode b_N_delete 1 = .ok (.iconst 0, 1) := by decide +kernel
theorem d_N_delete_2 : decode b_N_delete 2 = .ok (.iconst 3, 1) := by decide +kernel
theorem d_N_delete_3 : decode b_N_delete 3 = .ok (.invokestatic 116, 3) := by decide +kernel
theorem d_N_delete_6 : decode b_N_delete 6 = .ok (.ifCond .eq 13, 3) := by decide +kernel
theorem d_N_delete_9 : decode b_N_delete 9 = .ok (.iload_n 2, 1) := by decide +kernel
theorem d_N_delete_10 : decode b_N_delete 10 = .ok (.iconst 0, 1) := by decide +kernel
theorem d_N_delete_11 : decode b_N_delete 11 = .ok (.bipush 9, 2) := by decide +kernel
theorem d_N_delete_13 : decode b_N_delete 13 = .ok (.invokestatic 116, 3) := by decide +kernel
theorem d_N_delete_16 : decode b_N_delete 16 = .ok (.ifCond .ne 9, 3) := by decide +kernel
theorem d_N_delete_19 : decode b_N_delete 19 = .ok (.aload_n 0, 1) := by decide +kernel
theorem d_N_delete_20 : decode b_N_delete 20 = .ok (.iconst 1, 1) := by decide +kernel
theorem d_N_delete_21 : decode b_N_delete 21 = .ok (.invokevirtual 122, 3) := by decide +kernel
theorem d_N_delete_24 : decode b_N_delete 24 = .ok (.ireturn, 1) := by decide +kernel
theorem d_N_delete_25 : decode b_N_delete 25 = .ok (.aload_n 0, 1) := by decide +kernel
theorem d_N_delete_26 : decode b_N_delete 26 = .ok (.iload_n 1, 1) := by decide +kernel
theorem d_N_delete_27 : decode b_N_delete 27 = .ok (.iload_n 2, 1) := by decide +kernel
theorem d_N_delete_28 : decode b_N_delete 28 = .ok (.iconst 2, 1) := by decide +kernel
theorem d_N_delete_29 : decode b_N_delete 29 = .ok (.iconst 0, 1) := by decide +kernel
theorem d_N_delete_30 : decode b_N_delete 30 = .ok (.invokevirtual 158, 3) := by decide +kernel
theorem d_N_delete_33 : decode b_N_delete 33 = .ok (.istore_n 3, 1) := by decide +kernel
theorem d_N_delete_34 : decode b_N_delete 34 = .ok (.iload_n 3, 1) := by decide +kernel
theorem d_N_delete_35 : decode b_N_delete 35 = .ok (.ifCond .le 9, 3) := by decide +kernel
theorem d_N_delete_38 : decode b_N_delete 38 = .ok (.aload_n 0, 1) := by decide +kernel
theorem d_N_delete_39 : decode b_N_delete 39 = .ok (.iload_n 3, 1) := by decide +kernel
theorem d_N_delete_40 : decode b_N_delete 40 = .ok (.invokevirtual 122, 3) := by decide +kernel
theorem d_N_delete_43 : decode b_N_delete 43 = .ok (.ireturn, 1) := by decide +kernel
theorem d_N_delete_44 : decode b_N_delete 44 = .ok (.aload_n 0, 1) := by decide +kernel
theorem d_N_delete_45 : decode b_N_delete 45 = .ok (.getfield 58, 3) := by decide +kernel
theorem d_N_delete_48 : decode b_N_delete 48 = .ok (.iload_n 2, 1) := by decide +kernel
theorem d_N_delete_49 : decode b_N_delete 49 = .ok (.iaload, 1) := by decide +kernel
theorem d_N_delete_50 : decode b_N_delete 50 = .ok (.ifCond .ge 11, 3) := by decide +kernel
theorem d_N_delete_53 : decode b_N_delete 53 = .ok (.aload_n 0, 1) := by decide +kernel
theorem d_N_delete_54 : decode b_N_delete 54 = .ok (.iload_n 2, 1) := by decide +kernel
theorem d_N_delete_55 : decode b_N_delete 55 = .ok (.invokevirtual 162, 3) := by decide +kernel
theorem d_N_delete_58 : decode b_N_delete 58 = .ok (.ifCond .eq 9, 3) := by decide +kernel
theorem d_N_delete_61 : decode b_N_delete 61 = .ok (.aload_n 0, 1) := by decide +kernel
theorem d_N_delete_62 : decode b_N_delete 62 = .ok (.iconst 4, 1) := by decide +kernel
theorem d_N_delete_63 : decode b_N_delete 63 = .ok (.invokevirtual 122, 3) := by decide +kernel
theorem d_N_delete_66 : decode b_N_delete 66 = .ok (.ireturn, 1) := by decide +kernel
theorem d_N_delete_67 : decode b_N_delete 67 = .ok (.iconst 0, 1) := by decide +kernel
theorem d_N_delete_68 : decode b_N_delete 68 = .ok (.istore 4, 2) := by decide +kernel
theorem d_N_delete_70 : decode b_N_delete 70 = .ok (.iload 4, 2) := by decide +kernel
theorem d_N_delete_72 : decode b_N_delete 72 = .ok (.iconst 5, 1) := by decide +kernel
theorem d_N_delete_73 : decode b_N_delete 73 = .ok (.if_icmp .ge 39, 3) := by decide +kernel
theorem d_N_delete_76 : decode b_N_delete 76 = .ok (.aload_n 0, 1) := by decide +kernel
theorem d_N_delete_77 : decode b_N_delete 77 = .ok (.iload_n 2, 1) := by decide +kernel
theorem d_N_delete_78 : decode b_N_delete 78 = .ok (.iload 4, 2) := by decide +kernel
theorem d_N_delete_80 : decode b_N_delete 80 = .ok (.invokevirtual 165, 3) := by decide +kernel
theorem d_N_delete_83 : decode b_N_delete 83 = .ok (.ifCond .eq 23, 3) := by decide +kernel
theorem d_N_delete_86 : decode b_N_delete 86 = .ok (.aload_n 0, 1) := by decide +kernel
theorem d_N_delete_87 : decode b_N_delete 87 = .ok (.getfield 15, 3) := by decide +kernel
theorem d_N_delete_90 : decode b_N_delete 90 = .ok (.iload_n 1, 1) := by decide +kernel
theorem d_N_delete_91 : decode b_N_delete 91 = .ok (.dup2, 1) := by decide +kernel
theorem d_N_delete_92 : decode b_N_delete 92 = .ok (.laload, 1) := by decide +kernel
theorem d_N_delete_93 : decode b_N_delete 93 = .ok (.aload_n 0, 1) := by decide +kernel
theorem d_N_delete_94 : decode b_N_delete 94 = .ok (.getfield 70, 3) := by decide +kernel
theorem d_N_delete_97 : decode b_N_delete 97 = .ok (.iconst 5, 1) := by decide +kernel
theorem d_N_delete_98 : decode b_N_delete 98 = .ok (.iload_n 2, 1) := by decide +kernel
theorem d_N_delete_99 : decode b_N_delete 99 = .ok (.imul, 1) := by decide +kernel
theorem d_N_delete_100 : decode b_N_delete 100 = .ok (.iload 4, 2) := by decide +kernel
theorem d_N_delete_102 : decode b_N_delete 102 = .ok (.iadd, 1) := by decide +kernel
theorem d_N_delete_103 : decode b_N_delete 103 = .ok (.laload, 1) := by decide +kernel
theorem d_N_delete_104 : decode b_N_delete 104 = .ok (.ladd, 1) := by decide +kernel
theorem d_N_delete_105 : decode b_N_delete 105 = .ok (.lastore, 1) := by decide +kernel
theorem d_N_delete_106 : decode b_N_delete 106 = .ok (.iinc 4 1, 3) := by decide +kernel
theorem d_N_delete_109 : decode b_N_delete 109 = .ok (.goto (-39), 3) := by decide +kernel
theorem d_N_delete_112 : decode b_N_delete 112 = .ok (.aload_n 0, 1) := by decide +kernel
theorem d_N_delete_113 : decode b_N_delete 113 = .ok (.iload_n 2, 1) := by decide +kernel
theorem d_N_delete_114 : decode b_N_delete 114 = .ok (.iconst 0, 1) := by decide +kernel
theorem d_N_delete_115 : decode b_N_delete 115 = .ok (.invokevirtual 165, 3) := by decide +kernel
theorem d_N_delete_118 : decode b_N_delete 118 = .ok (.ifCond .eq 14, 3) := by decide +kernel
theorem d_N_delete_121 : decode b_N_delete 121 = .ok (.aload_n 0, 1) := by decide +kernel
theorem d_N_delete_122 : decode b_N_delete 122 = .ok (.iload_n 2, 1) := by decide +kernel
theorem d_N_delete_123 : decode b_N_delete 123 = .ok (.invokevirtual 168, 3) := by decide +kernel
theorem d_N_delete_126 : decode b_N_delete 126 = .ok (.aload_n 0, 1) := by decide +kernel
theorem d_N_delete_127 : decode b_N_delete 127 = .ok (.iconst 2, 1) := by decide +kernel
theorem d_N_delete_128 : decode b_N_delete 128 = .ok (.invokevirtual 126, 3) := by decide +kernel
theorem d_N_delete_131 : decode b_N_delete 131 = .ok (.ireturn, 1) := by decide +kernel
theorem d_N_delete_132 : decode b_N_delete 132 = .ok (.aload_n 0, 1) := by decide +kernel
theorem d_N_delete_133 : decode b_N_delete 133 = .ok (.iload_n 2, 1) := by decide +kernel
theorem d_N_delete_134 : decode b_N_delete 134 = .ok (.iconst 4, 1) := by decide +kernel
theorem d_N_delete_135 : decode b_N_delete 135 = .ok (.invokevirtual 165, 3) := by decide +kernel
theorem d_N_delete_138 : decode b_N_delete 138 = .ok (.ifCond .eq 14, 3) := by decide +kernel
theorem d_N_delete_141 : decode b_N_delete 141 = .ok (.aload_n 0, 1) := by decide +kernel
theorem d_N_delete_142 : decode b_N_delete 142 = .ok (.getfield 43, 3) := by decide +kernel
theorem d_N_delete_145 : decode b_N_delete 145 = .ok (.iload_n 2, 1) := by decide +kernel
theorem d_N_delete_146 : decode b_N_delete 146 = .ok (.dup2, 1) := by decide +kernel
theorem d_N_delete_147 : decode b_N_delete 147 = .ok (.iaload, 1) := by decide +kernel
theorem d_N_delete_148 : decode b_N_delete 148 = .ok (.bipush 10, 2) := by decide +kernel
theorem d_N_delete_150 : decode b_N_delete 150 = .ok (.isub, 1) := by decide +kernel
theorem d_N_delete_151 : decode b_N_delete 151 = .ok (.iastore, 1) := by decide +kernel
theorem d_N_delete_152 : decode b_N_delete 152 = .ok (.aload_n 0, 1) := by decide +kernel
theorem d_N_delete_153 : decode b_N_delete 153 = .ok (.getfield 52, 3) := by decide +kernel
theorem d_N_delete_156 : decode b_N_delete 156 = .ok (.iload_n 2, 1) := by decide +kernel
theorem d_N_delete_157 : decode b_N_delete 157 = .ok (.iconst 1, 1) := by decide +kernel
theorem d_N_delete_158 : decode b_N_delete 158 = .ok (.iastore, 1) := by decide +kernel
theorem d_N_delete_159 : decode b_N_delete 159 = .ok (.aload_n 0, 1) := by decide +kernel
theorem d_N_delete_160 : decode b_N_delete 160 = .ok (.getfield 55, 3) := by decide +kernel
theorem d_N_delete_163 : decode b_N_delete 163 = .ok (.iload_n 2, 1) := by decide +kernel
theorem d_N_delete_164 : decode b_N_delete 164 = .ok (.aload_n 0, 1) := by decide +kernel
theorem d_N_delete_165 : decode b_N_delete 165 = .ok (.getfield 98, 3) := by decide +kernel
theorem d_N_delete_168 : decode b_N_delete 168 = .ok (.iconst 5, 1) := by decide +kernel
theorem d_N_delete_169 : decode b_N_delete 169 = .ok (.iadd, 1) := by decide +kernel
theorem d_N_delete_170 : decode b_N_delete 170 = .ok (.iastore, 1) := by decide +kernel
theorem d_N_delete_171 : decode b_N_delete 171 = .ok (.aload_n 0, 1) := by decide +kernel
theorem d_N_delete_172 : decode b_N_delete 172 = .ok (.iload_n 2, 1) := by decide +kernel
theorem d_N_delete_173 : decode b_N_delete 173 = .ok (.invokevirtual 151, 3) := by decide +kernel
theorem d_N_delete_176 : decode b_N_delete 176 = .ok (.aload_n 0, 1) := by decide +kernel
theorem d_N_delete_177 : decode b_N_delete 177 = .ok (.iconst 1, 1) := by decide +kernel
theorem d_N_delete_178 : decode b_N_delete 178 = .ok (.invokevirtual 126, 3) := by decide +kernel
theorem d_N_delete_181 : decode b_N_delete 181 = .ok (.ireturn, 1) := by decide +kernel
theorem d_N_restore_0 : decode b_N_restore 0 = .ok (.iload_n 1, 1) := by decide +kernel
theorem d_N_restore_1 : decode b_N_restore 1 = .ok (.iconst 0, 1) := by decide +kernel
theorem d_N_restore_2 : decode b_N_restore 2 = .ok (.iconst 3, 1) := by decide +kernel
theorem d_N_restore_3 : decode b_N_restore 3 = .ok (.invokestatic 116, 3) := by decide +kernel
theorem d_N_restore_6 : decode b_N_restore 6 = .ok (.ifCond .eq 13, 3) := by decide +kernel
theorem d_N_restore_9 : decode b_N_restore 9 = .ok (.iload_n 2, 1) := by decide +kernel
theorem d_N_restore_10 : decode b_N_restore 10 = .ok (.iconst 0, 1) := by decide +kernel
theorem d_N_restore_11 : decode b_N_restore 11 = .ok (.bipush 9, 2) := by decide +kernel
theorem d_N_restore_13 : decode b_N_restore 13 = .ok (.invokestatic 116, 3) := by decide +kernel
theorem d_N_restore_16 : decode b_N_restore 16 = .ok (.ifCond .ne 9, 3) := by decide +kernel
theorem d_N_restore_19 : decode b_N_restore 19 = .ok (.aload_n 0, 1) := by decide +kernel
theorem d_N_restore_20 : decode b_N_restore 20 = .ok (.iconst 1, 1) := by decide +kernel
theorem d_N_restore_21 : decode b_N_restore 21 = .ok (.invokevirtual 122, 3) := by decide +kernel
theorem d_N_restore_24 : decode b_N_restore 24 = .ok (.ireturn, 1) := by decide +kernel
theorem d_N_restore_25 : decode b_N_restore 25 = .ok (.aload_n 0, 1) := by decide +kernel
theorem d_N_restore_26 : decode b_N_restore 26 = .ok (.iload_n 1, 1) := by decide +kernel
theorem d_N_restore_27 : decode b_N_restore 27 = .ok (.iload_n 2, 1) := by decide +kernel
theorem d_N_restore_28 : decode b_N_restore 28 = .ok (.iconst 0, 1) := by decide +kernel
theorem d_N_restore_29 : decode b_N_restore 29 = .ok (.iconst 1, 1) := by decide +kernel
theorem d_N_restore_30 : decode b_N_restore 30 = .ok (.invokevirtual 158, 3) := by decide +kernel
theorem d_N_restore_33 : decode b_N_restore 33 = .ok (.istore_n 3, 1) := by decide +kernel
theorem d_N_restore_34 : decode b_N_restore 34 = .ok (.iload_n 3, 1) := by decide +kernel
theorem d_N_restore_35 : decode b_N_restore 35 = .ok (.ifCond .le 9, 3) := by decide +kernel
theorem d_N_restore_38 : decode b_N_restore 38 = .ok (.aload_n 0, 1) := by decide +kernel
theorem d_N_restore_39 : decode b_N_restore 39 = .ok (.iload_n 3, 1) := by decide +kernel
theorem d_N_restore_40 : decode b_N_restore 40 = .ok (.invokevirtual 122, 3) := by decide +kernel
theorem d_N_restore_43 : decode b_N_restore 43 = .ok (.ireturn, 1) := by decide +kernel
theorem d_N_restore_44 : decode b_N_restore 44 = .ok (.aload_n 0, 1) := by decide +kernel
theorem d_N_restore_45 : decode b_N_restore 45 = .ok (.iload_n 1, 1) := by decide +kernel
theorem d_N_restore_46 : decode b_N_restore 46 = .ok (.iconst 3, 1) := by decide +kernel
theorem d_N_restore_47 : decode b_N_restore 47 = .ok (.iconst 1, 1) := by decide +kernel
theorem d_N_restore_48 : decode b_N_restore 48 = .ok (.invokevirtual 148, 3) := by decide +kernel
theorem d_N_restore_51 : decode b_N_restore 51 = .ok (.ifCond .ne 9, 3) := by decide +kernel
theorem d_N_restore_54 : decode b_N_restore 54 = .ok (.aload_n 0, 1) := by decide +kernel
theorem d_N_restore_55 : decode b_N_restore 55 = .ok (.iconst 4, 1) := by decide +kernel
theorem d_N_restore_56 : decode b_N_restore 56 = .ok (.invokevirtual 122, 3) := by decide +kernel
theorem d_N_restore_59 : decode b_N_restore 59 = .ok (.ireturn, 1) := by decide +kernel
theorem d_N_restore_60 : decode b_N_restore 60 = .ok (.aload_n 0, 1) := by decide +kernel
theorem d_N_restore_61 : decode b_N_restore 61 = .ok (.iload_n 1, 1) := by decide +kernel
theorem d_N_restore_62 : decode b_N_restore 62 = .ok (.iconst 3, 1) := by decide +kernel
theorem d_N_restore_63 : decode b_N_restore 63 = .ok (.iconst 1, 1) := by decide +kernel
theorem d_N_restore_64 : decode b_N_restore 64 = .ok (.iload_n 2, 1) := by decide +kernel
theorem d_N_restore_65 : decode b_N_restore 65 = .ok (.iconst (-1), 1) := by decide +kernel
theorem d_N_restore_66 : decode b_N_restore 66 = .ok (.invokevirtual 154, 3) := by decide +kernel
theorem d_N_restore_69 : decode b_N_restore 69 = .ok (.aload_n 0, 1) := by decide +kernel
theorem d_N_restore_70 : decode b_N_restore 70 = .ok (.getfield 52, 3) := by decide +kernel
theorem d_N_restore_73 : decode b_N_restore 73 = .ok (.iload_n 2, 1) := by decide +kernel
theorem d_N_restore_74 : decode b_N_restore 74 = .ok (.iconst 0, 1) := by decide +kernel
theorem d_N_restore_75 : decode b_N_restore 75 = .ok (.iastore, 1) := by decide +kernel
theorem d_N_restore_76 : decode b_N_restore 76 = .ok (.aload_n 0, 1) := by decide +kernel
theorem d_N_restore_77 : decode b_N_restore 77 = .ok (.aload_n 0, 1) := by decide +kernel
theorem d_N_restore_78 : decode b_N_restore 78 = .ok (.getfield 43, 3) := by decide +kernel
theorem d_N_restore_81 : decode b_N_restore 81 = .ok (.iload_n 2, 1) := by decide +kernel
theorem d_N_restore_82 : decode b_N_restore 82 = .ok (.iaload, 1) := by decide +kernel
theorem d_N_restore_83 : decode b_N_restore 83 = .ok (.invokevirtual 126, 3) := by decide +kernel
theorem d_N_restore_86 : decode b_N_restore 86 = .ok (.ireturn, 1) := by decide +kernel
theorem d_N_ask_0 : decode b_N_ask 0 = .ok (.iload_n 1, 1) := by decide +kernel
theorem d_N_ask_1 : decode b_N_ask 1 = .ok (.iconst 0, 1) := by decide +kernel
theorem d_N_ask_2 : decode b_N_ask 2 = .ok (.iconst 3, 1) := by decide +kernel
theorem d_N_ask_3 : decode b_N_ask 3 = .ok (.invokestatic 116, 3) := by decide +kernel
theorem d_N_ask_6 : decode b_N_ask 6 = .ok (.ifCond .eq 23, 3) := by decide +kernel
theorem d_N_ask_9 : decode b_N_ask 9 = .ok (.iload_n 2, 1) := by decide +kernel
theorem d_N_ask_10 : decode b_N_ask 10 = .ok (.iconst 0, 1) := by decide +kernel
theorem d_N_ask_11 : decode b_N_ask 11 = .ok (.bipush 9, 2) := by decide +kernel
theorem d_N_ask_13 : decode b_N_ask 13 = .ok (.invokestatic 116, 3) := by decide +kernel
theorem d_N_ask_16 : decode b_N_ask 16 = .ok (.ifCond .eq 13, 3) := by decide +kernel
theorem d_N_ask_19 : decode b_N_ask 19 = .ok (.iload_n 3, 1) := by decide +kernel
theorem d_N_ask_20 : decode b_N_ask 20 = .ok (.iconst 0, 1) := by decide +kernel
theorem d_N_ask_21 : decode b_N_ask 21 = .ok (.bipush 99, 2) := by decide +kernel
theorem d_N_ask_23 : decode b_N_ask 23 = .ok (.invokestatic 116, 3) := by decide +kernel
theorem d_N_ask_26 : decode b_N_ask 26 = .ok (.ifCond .ne 9, 3) := by decide +kernel
theorem d_N_ask_29 : decode b_N_ask 29 = .ok (.aload_n 0, 1) := by decide +kernel
theorem d_N_ask_30 : decode b_N_ask 30 = .ok (.iconst 1, 1) := by decide +kernel
theorem d_N_ask_31 : decode b_N_ask 31 = .ok (.invokevirtual 122, 3) := by decide +kernel
theorem d_N_ask_34 : decode b_N_ask 34 = .ok (.ireturn, 1) := by decide +kernel
theorem d_N_ask_35 : decode b_N_ask 35 = .ok (.aload_n 0, 1) := by decide +kernel
theorem d_N_ask_36 : decode b_N_ask 36 = .ok (.iload_n 2, 1) := by decide +kernel
theorem d_N_ask_37 : decode b_N_ask 37 = .ok (.invokevirtual 133, 3) := by decide +kernel
theorem d_N_ask_40 : decode b_N_ask 40 = .ok (.ifCond .eq 9, 3) := by decide +kernel
theorem d_N_ask_43 : decode b_N_ask 43 = .ok (.aload_n 0, 1) := by decide +kernel
theorem d_N_ask_44 : decode b_N_ask 44 = .ok (.iconst 2, 1) := by decide +kernel
theorem d_N_ask_45 : decode b_N_ask 45 = .ok (.invokevirtual 122, 3) := by decide +kernel
theorem d_N_ask_48 : decode b_N_ask 48 = .ok (.ireturn, 1) := by decide +kernel
theorem d_N_ask_49 : decode b_N_ask 49 = .ok (.aload_n 0, 1) := by decide +kernel
theorem d_N_ask_50 : decode b_N_ask 50 = .ok (.getfield 40, 3) := by decide +kernel
theorem d_N_ask_53 : decode b_N_ask 53 = .ok (.iload_n 2, 1) := by decide +kernel
theorem d_N_ask_54 : decode b_N_ask 54 = .ok (.iaload, 1) := by decide +kernel
theorem d_N_ask_55 : decode b_N_ask 55 = .ok (.iload_n 1, 1) := by decide +kernel
theorem d_N_ask_56 : decode b_N_ask 56 = .ok (.if_icmp .eq 33, 3) := by decide +kernel
theorem d_N_ask_59 : decode b_N_ask 59 = .ok (.aload_n 0, 1) := by decide +kernel
theorem d_N_ask_60 : decode b_N_ask 60 = .ok (.getfield 46, 3) := by decide +kernel
theorem d_N_ask_63 : decode b_N_ask 63 = .ok (.iload_n 2, 1) := by decide +kernel
theorem d_N_ask_64 : decode b_N_ask 64 = .ok (.iaload, 1) := by decide +kernel
theorem d_N_ask_65 : decode b_N_ask 65 = .ok (.iload_n 3, 1) := by decide +kernel
theorem d_N_ask_66 : decode b_N_ask 66 = .ok (.if_icmp .ne 23, 3) := by decide +kernel
theorem d_N_ask_69 : decode b_N_ask 69 = .ok (.aload_n 0, 1) := by decide +kernel
theorem d_N_ask_70 : decode b_N_ask 70 = .ok (.getfield 49, 3) := by decide +kernel
theorem d_N_ask_73 : decode b_N_ask 73 = .ok (.iload_n 2, 1) := by decide +kernel
theorem d_N_ask_74 : decode b_N_ask 74 = .ok (.iaload, 1) := by decide +kernel
theorem d_N_ask_75 : decode b_N_ask 75 = .ok (.iconst 4, 1) := by decide +kernel
theorem d_N_ask_76 : decode b_N_ask 76 = .ok (.iand, 1) := by decide +kernel
theorem d_N_ask_77 : decode b_N_ask 77 = .ok (.ifCond .ne 12, 3) := by decide +kernel
theorem d_N_ask_80 : decode b_N_ask 80 = .ok (.aload_n 0, 1) := by decide +kernel
theorem d_N_ask_81 : decode b_N_ask 81 = .ok (.getfield 52, 3) := by decide +kernel
theorem d_N_ask_84 : decode b_N_ask 84 = .ok (.iload_n 2, 1) := by decide +kernel
theorem d_N_ask_85 : decode b_N_ask 85 = .ok (.iaload, 1) := by decide +kernel
theorem d_N_ask_86 : decode b_N_ask 86 = .ok (.ifCond .eq 9, 3) := by decide +kernel
theorem d_N_ask_89 : decode b_N_ask 89 = .ok (.aload_n 0, 1) := by decide +kernel
theorem d_N_ask_90 : decode b_N_ask 90 = .ok (.iconst 3, 1) := by decide +kernel
theorem d_N_ask_91 : decode b_N_ask 91 = .ok (.invokevirtual 122, 3) := by decide +kernel
theorem d_N_ask_94 : decode b_N_ask 94 = .ok (.ireturn, 1) := by decide +kernel
theorem d_N_ask_95 : decode b_N_ask 95 = .ok (.aload_n 0, 1) := by decide +kernel
theorem d_N_ask_96 : decode b_N_ask 96 = .ok (.getfield 58, 3) := by decide +kernel
theorem d_N_ask_99 : decode b_N_ask 99 = .ok (.iload_n 2, 1) := by decide +kernel
theorem d_N_ask_100 : decode b_N_ask 100 = .ok (.iaload, 1) := by decide +kernel
theorem d_N_ask_101 : decode b_N_ask 101 = .ok (.ifCond .lt 9, 3) := by decide +kernel
theorem d_N_ask_104 : decode b_N_ask 104 = .ok (.aload_n 0, 1) := by decide +kernel
theorem d_N_ask_105 : decode b_N_ask 105 = .ok (.iconst 4, 1) := by decide +kernel
theorem d_N_ask_106 : decode b_N_ask 106 = .ok (.invokevirtual 122, 3) := by decide +kernel
theorem d_N_ask_109 : decode b_N_ask 109 = .ok (.ireturn, 1) := by decide +kernel
theorem d_N_ask_110 : decode b_N_ask 110 = .ok (.aload_n 0, 1) := by decide +kernel
theorem d_N_ask_111 : decode b_N_ask 111 = .ok (.getfield 58, 3) := by decide +kernel
theorem d_N_ask_114 : decode b_N_ask 114 = .ok (.iload_n 2, 1) := by decide +kernel
theorem d_N_ask_115 : decode b_N_ask 115 = .ok (.iload_n 1, 1) := by decide +kernel
theorem d_N_ask_116 : decode b_N_ask 116 = .ok (.iastore, 1) := by decide +kernel
theorem d_N_ask_117 : decode b_N_ask 117 = .ok (.aload_n 0, 1) := by decide +kernel
theorem d_N_ask_118 : decode b_N_ask 118 = .ok (.getfield 61, 3) := by decide +kernel
theorem d_N_ask_121 : decode b_N_ask 121 = .ok (.iload_n 2, 1) := by decide +kernel
theorem d_N_ask_122 : decode b_N_ask 122 = .ok (.aload_n 0, 1) := by decide +kernel
theorem d_N_ask_123 : decode b_N_ask 123 = .ok (.getfield 98, 3) := by decide +kernel
theorem d_N_ask_126 : decode b_N_ask 126 = .ok (.iconst 4, 1) := by decide +kernel
theorem d_N_ask_127 : decode b_N_ask 127 = .ok (.iadd, 1) := by decide +kernel
theorem d_N_ask_128 : decode b_N_ask 128 = .ok (.iastore, 1) := by decide +kernel
theorem d_N_ask_129 : decode b_N_ask 129 = .ok (.aload_n 0, 1) := by decide +kernel
theorem d_N_ask_130 : decode b_N_ask 130 = .ok (.aload_n 0, 1) := by decide +kernel
theorem d_N_ask_131 : decode b_N_ask 131 = .ok (.getfield 40, 3) := by decide +kernel
theorem d_N_ask_134 : decode b_N_ask 134 = .ok (.iload_n 2, 1) := by decide +kernel
theorem d_N_ask_135 : decode b_N_ask 135 = .ok (.iaload, 1) := by decide +kernel
theorem d_N_ask_136 : decode b_N_ask 136 = .ok (.iconst 1, 1) := by decide +kernel
theorem d_N_ask_137 : decode b_N_ask 137 = .ok (.iload_n 2, 1) := by decide +kernel
theorem d_N_ask_138 : decode b_N_ask 138 = .ok (.invokevirtual 171, 3) := by decide +kernel
theorem d_N_ask_141 : decode b_N_ask 141 = .ok (.aload_n 0, 1) := by decide +kernel
theorem d_N_ask_142 : decode b_N_ask 142 = .ok (.aload_n 0, 1) := by decide +kernel
theorem d_N_ask_143 : decode b_N_ask 143 = .ok (.getfield 61, 3) := by decide +kernel
theorem d_N_ask_146 : decode b_N_ask 146 = .ok (.iload_n 2, 1) := by decide +kernel
theorem d_N_ask_147 : decode b_N_ask 147 = .ok (.iaload, 1) := by decide +kernel
theorem d_N_ask_148 : decode b_N_ask 148 = .ok (.invokevirtual 126, 3) := by decide +kernel
theorem d_N_ask_151 : decode b_N_ask 151 = .ok (.ireturn, 1) := by decide +kernel
theorem d_N_handOver_0 : decode b_N_handOver 0 = .ok (.aload_n 0, 1) := by decide +kernel
theorem d_N_handOver_1 : decode b_N_handOver 1 = .ok (.getfield 58, 3) := by decide +kernel
theorem d_N_handOver_4 : decode b_N_handOver 4 = .ok (.iload_n 1, 1) := by decide +kernel
theorem d_N_handOver_5 : decode b_N_handOver 5 = .ok (.iaload, 1) := by decide +kernel
theorem d_N_handOver_6 : decode b_N_handOver 6 = .ok (.istore_n 2, 1) := by decide +kernel
theorem d_N_handOver_7 : decode b_N_handOver 7 = .ok (.aload_n 0, 1) := by decide +kernel
theorem d_N_handOver_8 : decode b_N_handOver 8 = .ok (.getfield 40, 3) := by decide +kernel
theorem d_N_handOver_11 : decode b_N_handOver 11 = .ok (.iload_n 1, 1) := by decide +kernel
theorem d_N_handOver_12 : decode b_N_handOver 12 = .ok (.iaload, 1) := by decide +kernel
theorem d_N_handOver_13 : decode b_N_handOver 13 = .ok (.istore_n 3, 1) := by decide +kernel
theorem d_N_handOver_14 : decode b_N_handOver 14 = .ok (.aload_n 0, 1) := by decide +kernel
theorem d_N_handOver_15 : decode b_N_handOver 15 = .ok (.iload_n 1, 1) := by decide +kernel
theorem d_N_handOver_16 : decode b_N_handOver 16 = .ok (.invokevirtual 151, 3) := by decide +kernel
theorem d_N_handOver_19 : decode b_N_handOver 19 = .ok (.aload_n 0, 1) := by decide +kernel
theorem d_N_handOver_20 : decode b_N_handOver 20 = .ok (.iload_n 2, 1) := by decide +kernel
theorem d_N_handOver_21 : decode b_N_handOver 21 = .ok (.iconst 2, 1) := by decide +kernel
theorem d_N_handOver_22 : decode b_N_handOver 22 = .ok (.iconst 1, 1) := by decide +kernel
theorem d_N_handOver_23 : decode b_N_handOver 23 = .ok (.iload_n 1, 1) := by decide +kernel
theorem d_N_handOver_24 : decode b_N_handOver 24 = .ok (.iconst 2, 1) := by decide +kernel
theorem d_N_handOver_25 : decode b_N_handOver 25 = .ok (.invokevirtual 154, 3) := by decide +kernel
theorem d_N_handOver_28 : decode b_N_handOver 28 = .ok (.aload_n 0, 1) := by decide +kernel
theorem d_N_handOver_29 : decode b_N_handOver 29 = .ok (.getfield 43, 3) := by decide +kernel
theorem d_N_handOver_32 : decode b_N_handOver 32 = .ok (.iload_n 1, 1) := by decide +kernel
theorem d_N_handOver_33 : decode b_N_handOver 33 = .ok (.dup2, 1) := by decide +kernel
theorem d_N_handOver_34 : decode b_N_handOver 34 = .ok (.iaload, 1) := by decide +kernel
theorem d_N_handOver_35 : decode b_N_handOver 35 = .ok (.bipush 10, 2) := by decide +kernel
theorem d_N_handOver_37 : decode b_N_handOver 37 = .ok (.iadd, 1) := by decide +kernel
theorem d_N_handOver_38 : decode b_N_handOver 38 = .ok (.iastore, 1) := by decide +kernel
theorem d_N_handOver_39 : decode b_N_handOver 39 = .ok (.aload_n 0, 1) := by decide +kernel
theorem d_N_handOver_40 : decode b_N_handOver 40 = .ok (.getfield 40, 3) := by decide +kernel
theorem d_N_handOver_43 : decode b_N_handOver 43 = .ok (.iload_n 1, 1) := by decide +kernel
theorem d_N_handOver_44 : decode b_N_handOver 44 = .ok (.iload_n 2, 1) := by decide +kernel
theorem d_N_handOver_45 : decode b_N_handOver 45 = .ok (.iastore, 1) := by decide +kernel
theorem d_N_handOver_46 : decode b_N_handOver 46 = .ok (.aload_n 0, 1) := by decide +kernel
theorem d_N_handOver_47 : decode b_N_handOver 47 = .ok (.getfield 58, 3) := by decide +kernel
theorem d_N_handOver_50 : decode b_N_handOver 50 = .ok (.iload_n 1, 1) := by decide +kernel
theorem d_N_handOver_51 : decode b_N_handOver 51 = .ok (.iconst (-1), 1) := by decide +kernel
theorem d_N_handOver_52 : decode b_N_handOver 52 = .ok (.iastore, 1) := by decide +kernel
theorem d_N_handOver_53 : decode b_N_handOver 53 = .ok (.iconst 0, 1) := by decide +kernel
theorem d_N_handOver_54 : decode b_N_handOver 54 = .ok (.istore 4, 2) := by decide +kernel
theorem d_N_handOver_56 : decode b_N_handOver 56 = .ok (.iload 4, 2) := by decide +kernel
theorem d_N_handOver_58 : decode b_N_handOver 58 = .ok (.aload_n 0, 1) := by decide +kernel
theorem d_N_handOver_59 : decode b_N_handOver 59 = .ok (.getfield 85, 3) := by decide +kernel
theorem d_N_handOver_62 : decode b_N_handOver 62 = .ok (.if_icmp .ge 38, 3) := by decide +kernel
theorem d_N_handOver_65 : decode b_N_handOver 65 = .ok (.aload_n 0, 1) := by decide +kernel
theorem d_N_handOver_66 : decode b_N_handOver 66 = .ok (.getfield 31, 3) := by decide +kernel
theorem d_N_handOver_69 : decode b_N_handOver 69 = .ok (.iload 4, 2) := by decide +kernel
theorem d_N_handOver_71 : decode b_N_handOver 71 = .ok (.iaload, 1) := by decide +kernel
theorem d_N_handOver_72 : decode b_N_handOver 72 = .ok (.ifCond .lt 22, 3) := by decide +kernel
theorem d_N_handOver_75 : decode b_N_handOver 75 = .ok (.aload_n 0, 1) := by decide +kernel
theorem d_N_handOver_76 : decode b_N_handOver 76 = .ok (.getfield 37, 3) := by decide +kernel
theorem d_N_handOver_79 : decode b_N_handOver 79 = .ok (.iload 4, 2) := by decide +kernel
theorem d_N_handOver_81 : decode b_N_handOver 81 = .ok (.iaload, 1) := by decide +kernel
theorem d_N_handOver_82 : decode b_N_handOver 82 = .ok (.iload_n 1, 1) := by decide +kernel
theorem d_N_handOver_83 : decode b_N_handOver 83 = .ok (.if_icmp .ne 11, 3) := by decide +kernel
theorem d_N_handOver_86 : decode b_N_handOver 86 = .ok (.aload_n 0, 1) := by decide +kernel
theorem d_N_handOver_87 : decode b_N_handOver 87 = .ok (.getfield 31, 3) := by decide +kernel
theorem d_N_handOver_90 : decode b_N_handOver 90 = .ok (.iload 4, 2) := by decide +kernel
theorem d_N_handOver_92 : decode b_N_handOver 92 = .ok (.iload_n 2, 1) := by decide +kernel
theorem d_N_handOver_93 : decode b_N_handOver 93 = .ok (.iastore, 1) := by decide +kernel
theorem d_N_handOver_94 : decode b_N_handOver 94 = .ok (.iinc 4 1, 3) := by decide +kernel
theorem d_N_handOver_97 : decode b_N_handOver 97 = .ok (.goto (-41), 3) := by decide +kernel
theorem d_N_handOver_100 : decode b_N_handOver 100 = .ok (.aload_n 0, 1) := by decide +kernel
theorem d_N_handOver_101 : decode b_N_handOver 101 = .ok (.iload_n 3, 1) := by decide +kernel
theorem d_N_handOver_102 : decode b_N_handOver 102 = .ok (.iconst 2, 1) := by decide +kernel
theorem d_N_handOver_103 : decode b_N_handOver 103 = .ok (.iload_n 1, 1) := by decide +kernel
theorem d_N_handOver_104 : decode b_N_handOver 104 = .ok (.invokevirtual 171, 3) := by decide +kernel
theorem d_N_handOver_107 : decode b_N_handOver 107 = .ok (.aload_n 0, 1) := by decide +kernel
theorem d_N_handOver_108 : decode b_N_handOver 108 = .ok (.iload_n 2, 1) := by decide +kernel
theorem d_N_handOver_109 : decode b_N_handOver 109 = .ok (.iconst 2, 1) := by decide +kernel
theorem d_N_handOver_110 : decode b_N_handOver 110 = .ok (.iload_n 1, 1) := by decide +kernel
theorem d_N_handOver_111 : decode b_N_handOver 111 = .ok (.invokevirtual 171, 3) := by decide +kernel
theorem d_N_handOver_114 : decode b_N_handOver 114 = .ok (.return_, 1) := by decide +kernel
theorem d_N_endTransfer_0 : decode b_N_endTransfer 0 = .ok (.aload_n 0, 1) := by decide +kernel
theorem d_N_endTransfer_1 : decode b_N_endTransfer 1 = .ok (.aload_n 0, 1) := by decide +kernel
theorem d_N_endTransfer_2 : decode b_N_endTransfer 2 = .ok (.getfield 58, 3) := by decide +kernel
theorem d_N_endTransfer_5 : decode b_N_endTransfer 5 = .ok (.iload_n 1, 1) := by decide +kernel
theorem d_N_endTransfer_6 : decode b_N_endTransfer 6 = .ok (.iaload, 1) := by decide +kernel
theorem d_N_endTransfer_7 : decode b_N_endTransfer 7 = .ok (.iconst 3, 1) := by decide +kernel
theorem d_N_endTransfer_8 : decode b_N_endTransfer 8 = .ok (.iload_n 1, 1) := by decide +kernel
theorem d_N_endTransfer_9 : decode b_N_endTransfer 9 = .ok (.invokevirtual 171, 3) := by decide +kernel
theorem d_N_endTransfer_12 : decode b_N_endTransfer 12 = .ok (.aload_n 0, 1) := by decide +kernel
theorem d_N_endTransfer_13 : decode b_N_endTransfer 13 = .ok (.getfield 58, 3) := by decide +kernel
theorem d_N_endTransfer_16 : decode b_N_endTransfer 16 = .ok (.iload_n 1, 1) := by decide +kernel
theorem d_N_endTransfer_17 : decode b_N_endTransfer 17 = .ok (.iconst (-1), 1) := by decide +kernel
theorem d_N_endTransfer_18 : decode b_N_endTransfer 18 = .ok (.iastore, 1) := by decide +kernel
theorem d_N_endTransfer_19 : decode b_N_endTransfer 19 = .ok (.return_, 1) := by decide +kernel
theorem d_N_answer_0 : decode b_N_answer 0 = .ok (.iload_n 1, 1) := by decide +kernel
theorem d_N_answer_1 : decode b_N_answer 1 = .ok (.iconst 0, 1) := by decide +kernel
theorem d_N_answer_2 : decode b_N_answer 2 = .ok (.iconst 3, 1) := by decide +kernel
theorem d_N_answer_3 : decode b_N_answer 3 = .ok (.invokestatic 116, 3) := by decide +kernel
theorem d_N_answer_6 : decode b_N_answer 6 = .ok (.ifCond .eq 13, 3) := by decide +kernel
theorem d_N_answer_9 : decode b_N_answer 9 = .ok (.iload_n 2, 1) := by decide +kernel
theorem d_N_answer_10 : decode b_N_answer 10 = .ok (.iconst 0, 1) := by decide +kernel
theorem d_N_answer_11 : decode b_N_answer 11 = .ok (.bipush 9, 2) := by decide +kernel
theorem d_N_answer_13 : decode b_N_answer 13 = .ok (.invokestatic 116, 3) := by decide +kernel
theorem d_N_answer_16 : decode b_N_answer 16 = .ok (.ifCond .ne 9, 3) := by decide +kernel
theorem d_N_answer_19 : decode b_N_answer 19 = .ok (.aload_n 0, 1) := by decide +kernel
theorem d_N_answer_20 : decode b_N_answer 20 = .ok (.iconst 1, 1) := by decide +kernel
theorem d_N_answer_21 : decode b_N_answer 21 = .ok (.invokevirtual 122, 3) := by decide +kernel
theorem d_N_answer_24 : decode b_N_answer 24 = .ok (.ireturn, 1) := by decide +kernel
theorem d_N_answer_25 : decode b_N_answer 25 = .ok (.aload_n 0, 1) := by decide +kernel
theorem d_N_answer_26 : decode b_N_answer 26 = .ok (.iload_n 2, 1) := by decide +kernel
theorem d_N_answer_27 : decode b_N_answer 27 = .ok (.invokevirtual 133, 3) := by decide +kernel
theorem d_N_answer_30 : decode b_N_answer 30 = .ok (.ifCond .ne 12, 3) := by decide +kernel
theorem d_N_answer_33 : decode b_N_answer 33 = .ok (.aload_n 0, 1) := by decide +kernel
theorem d_N_answer_34 : decode b_N_answer 34 = .ok (.getfield 58, 3) := by decide +kernel
theorem d_N_answer_37 : decode b_N_answer 37 = .ok (.iload_n 2, 1) := by decide +kernel
theorem d_N_answer_38 : decode b_N_answer 38 = .ok (.iaload, 1) := by decide +kernel
theorem d_N_answer_39 : decode b_N_answer 39 = .ok (.ifCond .ge 9, 3) := by decide +kernel
theorem d_N_answer_42 : decode b_N_answer 42 = .ok (.aload_n 0, 1) := by decide +kernel
theorem d_N_answer_43 : decode b_N_answer 43 = .ok (.iconst 2, 1) := by decide +kernel
theorem d_N_answer_44 : decode b_N_answer 44 = .ok (.invokevirtual 122, 3) := by decide +kernel
theorem d_N_answer_47 : decode b_N_answer 47 = .ok (.ireturn, 1) := by decide +kernel
theorem d_N_answer_48 : decode b_N_answer 48 = .ok (.iload_n 1, 1) := by decide +kernel
theorem d_N_answer_49 : decode b_N_answer 49 = .ok (.aload_n 0, 1) := by decide +kernel
theorem d_N_answer_50 : decode b_N_answer 50 = .ok (.getfield 40, 3) := by decide +kernel
theorem d_N_answer_53 : decode b_N_answer 53 = .ok (.iload_n 2, 1) := by decide +kernel
theorem d_N_answer_54 : decode b_N_answer 54 = .ok (.iaload, 1) := by decide +kernel
theorem d_N_answer_55 : decode b_N_answer 55 = .ok (.if_icmp .eq 23, 3) := by decide +kernel
theorem d_N_answer_58 : decode b_N_answer 58 = .ok (.iload_n 3, 1) := by decide +kernel
theorem d_N_answer_59 : decode b_N_answer 59 = .ok (.ifCond .ne 13, 3) := by decide +kernel
theorem d_N_answer_62 : decode b_N_answer 62 = .ok (.iload_n 1, 1) := by decide +kernel
theorem d_N_answer_63 : decode b_N_answer 63 = .ok (.aload_n 0, 1) := by decide +kernel
theorem d_N_answer_64 : decode b_N_answer 64 = .ok (.getfield 58, 3) := by decide +kernel
theorem d_N_answer_67 : decode b_N_answer 67 = .ok (.iload_n 2, 1) := by decide +kernel
theorem d_N_answer_68 : decode b_N_answer 68 = .ok (.iaload, 1) := by decide +kernel
theorem d_N_answer_69 : decode b_N_answer 69 = .ok (.if_icmp .eq 9, 3) := by decide +kernel
theorem d_N_answer_72 : decode b_N_answer 72 = .ok (.aload_n 0, 1) := by decide +kernel
theorem d_N_answer_73 : decode b_N_answer 73 = .ok (.iconst 3, 1) := by decide +kernel
theorem d_N_answer_74 : decode b_N_answer 74 = .ok (.invokevirtual 122, 3) := by decide +kernel
theorem d_N_answer_77 : decode b_N_answer 77 = .ok (.ireturn, 1) := by decide +kernel
theorem d_N_answer_78 : decode b_N_answer 78 = .ok (.iload_n 3, 1) := by decide +kernel
theorem d_N_answer_79 : decode b_N_answer 79 = .ok (.ifCond .eq 24, 3) := by decide +kernel
theorem d_N_answer_82 : decode b_N_answer 82 = .ok (.aload_n 0, 1) := by decide +kernel
theorem d_N_answer_83 : decode b_N_answer 83 = .ok (.aload_n 0, 1) := by decide +kernel
theorem d_N_answer_84 : decode b_N_answer 84 = .ok (.getfield 58, 3) := by decide +kernel
theorem d_N_answer_87 : decode b_N_answer 87 = .ok (.iload_n 2, 1) := by decide +kernel
theorem d_N_answer_88 : decode b_N_answer 88 = .ok (.iaload, 1) := by decide +kernel
theorem d_N_answer_89 : decode b_N_answer 89 = .ok (.iconst 2, 1) := by decide +kernel
theorem d_N_answer_90 : decode b_N_answer 90 = .ok (.iconst 1, 1) := by decide +kernel
theorem d_N_answer_91 : decode b_N_answer 91 = .ok (.invokevirtual 148, 3) := by decide +kernel
theorem d_N_answer_94 : decode b_N_answer 94 = .ok (.ifCond .ne 9, 3) := by decide +kernel
theorem d_N_answer_97 : decode b_N_answer 97 = .ok (.aload_n 0, 1) := by decide +kernel
theorem d_N_answer_98 : decode b_N_answer 98 = .ok (.iconst 4, 1) := by decide +kernel
theorem d_N_answer_99 : decode b_N_answer 99 = .ok (.invokevirtual 122, 3) := by decide +kernel
theorem d_N_answer_102 : decode b_N_answer 102 = .ok (.ireturn, 1) := by decide +kernel
theorem d_N_answer_103 : decode b_N_answer 103 = .ok (.iload_n 3, 1) := by decide +kernel
theorem d_N_answer_104 : decode b_N_answer 104 = .ok (.ifCond .eq 11, 3) := by decide +kernel
theorem d_N_answer_107 : decode b_N_answer 107 = .ok (.aload_n 0, 1) := by decide +kernel
theorem d_N_answer_108 : decode b_N_answer 108 = .ok (.iload_n 2, 1) := by decide +kernel
theorem d_N_answer_109 : decode b_N_answer 109 = .ok (.invokevirtual 174, 3) := by decide +kernel
theorem d_N_answer_112 : decode b_N_answer 112 = .ok (.goto 8, 3) := by decide +kernel
theorem d_N_answer_115 : decode b_N_answer 115 = .ok (.aload_n 0, 1) := by decide +kernel
theorem d_N_answer_116 : decode b_N_answer 116 = .ok (.iload_n 2, 1) := by decide +kernel
theorem d_N_answer_117 : decode b_N_answer 117 = .ok (.invokevirtual 177, 3) := by decide +kernel
theorem d_N_answer_120 : decode b_N_answer 120 = .ok (.aload_n 0, 1) := by decide +kernel
theorem d_N_answer_121 : decode b_N_answer 121 = .ok (.iload_n 3, 1) := by decide +kernel
theorem d_N_answer_122 : decode b_N_answer 122 = .ok (.ifCond .eq 7, 3) := by decide +kernel
theorem d_N_answer_125 : decode b_N_answer 125 = .ok (.iconst 1, 1) := by decide +kernel
theorem d_N_answer_126 : decode b_N_answer 126 = .ok (.goto 4, 3) := by decide +kernel
theorem d_N_answer_129 : decode b_N_answer 129 = .ok (.iconst 0, 1) := by decide +kernel
theorem d_N_answer_130 : decode b_N_answer 130 = .ok (.invokevirtual 126, 3) := by decide +kernel
theorem d_N_answer_133 : decode b_N_answer 133 = .ok (.ireturn, 1) := by decide +kernel
theorem d_N_newDay_0 : decode b_N_newDay 0 = .ok (.aload_n 0, 1) := by decide +kernel
theorem d_N_newDay_1 : decode b_N_newDay 1 = .ok (.iload_n 1, 1) := by decide +kernel
theorem d_N_newDay_2 : decode b_N_newDay 2 = .ok (.invokevirtual 133, 3) := by decide +kernel
theorem d_N_newDay_5 : decode b_N_newDay 5 = .ok (.ifCond .eq 4, 3) := by decide +kernel
theorem d_N_newDay_8 : decode b_N_newDay 8 = .ok (.return_, 1) := by decide +kernel
theorem d_N_newDay_9 : decode b_N_newDay 9 = .ok (.aload_n 0, 1) := by decide +kernel
theorem d_N_newDay_10 : decode b_N_newDay 10 = .ok (.getfield 58, 3) := by decide +kernel
theorem d_N_newDay_13 : decode b_N_newDay 13 = .ok (.iload_n 1, 1) := by decide +kernel
theorem d_N_newDay_14 : decode b_N_newDay 14 = .ok (.iaload, 1) := by decide +kernel
theorem d_N_newDay_15 : decode b_N_newDay 15 = .ok (.ifCond .lt 44, 3) := by decide +kernel
theorem d_N_newDay_18 : decode b_N_newDay 18 = .ok (.aload_n 0, 1) := by decide +kernel
theorem d_N_newDay_19 : decode b_N_newDay 19 = .ok (.getfield 61, 3) := by decide +kernel
theorem d_N_newDay_22 : decode b_N_newDay 22 = .ok (.iload_n 1, 1) := by decide +kernel
theorem d_N_newDay_23 : decode b_N_newDay 23 = .ok (.iaload, 1) := by decide +kernel
theorem d_N_newDay_24 : decode b_N_newDay 24 = .ok (.aload_n 0, 1) := by decide +kernel
theorem d_N_newDay_25 : decode b_N_newDay 25 = .ok (.getfield 98, 3) := by decide +kernel
theorem d_N_newDay_28 : decode b_N_newDay 28 = .ok (.if_icmp .ge 31, 3) := by decide +kernel
theorem d_N_newDay_31 : decode b_N_newDay 31 = .ok (.aload_n 0, 1) := by decide +kernel
theorem d_N_newDay_32 : decode b_N_newDay 32 = .ok (.aload_n 0, 1) := by decide +kernel
theorem d_N_newDay_33 : decode b_N_newDay 33 = .ok (.getfield 58, 3) := by decide +kernel
theorem d_N_newDay_36 : decode b_N_newDay 36 = .ok (.iload_n 1, 1) := by decide +kernel
theorem d_N_newDay_37 : decode b_N_newDay 37 = .ok (.iaload, 1) := by decide +kernel
theorem d_N_newDay_38 : decode b_N_newDay 38 = .ok (.iconst 2, 1) := by decide +kernel
theorem d_N_newDay_39 : decode b_N_newDay 39 = .ok (.iconst 1, 1) := by decide +kernel
theorem d_N_newDay_40 : decode b_N_newDay 40 = .ok (.invokevirtual 148, 3) := by decide +kernel
theorem d_N_newDay_43 : decode b_N_newDay 43 = .ok (.ifCond .eq 11, 3) := by decide +kernel
theorem d_N_newDay_46 : decode b_N_newDay 46 = .ok (.aload_n 0, 1) := by decide +kernel
theorem d_N_newDay_47 : decode b_N_newDay 47 = .ok (.iload_n 1, 1) := by decide +kernel
theorem d_N_newDay_48 : decode b_N_newDay 48 = .ok (.invokevirtual 174, 3) := by decide +kernel
theorem d_N_newDay_51 : decode b_N_newDay 51 = .ok (.goto 8, 3) := by decide +kernel
theorem d_N_newDay_54 : decode b_N_newDay 54 = .ok (.aload_n 0, 1) := by decide +kernel
theorem d_N_newDay_55 : decode b_N_newDay 55 = .ok (.iload_n 1, 1) := by decide +kernel
theorem d_N_newDay_56 : decode b_N_newDay 56 = .ok (.invokevirtual 177, 3) := by decide +kernel
theorem d_N_newDay_59 : decode b_N_newDay 59 = .ok (.aload_n 0, 1) := by decide +kernel
theorem d_N_newDay_60 : decode b_N_newDay 60 = .ok (.getfield 52, 3) := by decide +kernel
theorem d_N_newDay_63 : decode b_N_newDay 63 = .ok (.iload_n 1, 1) := by decide +kernel
theorem d_N_newDay_64 : decode b_N_newDay 64 = .ok (.iaload, 1) := by decide +kernel
theorem d_N_newDay_65 : decode b_N_newDay 65 = .ok (.ifCond .ne 44, 3) := by decide +kernel
theorem d_N_newDay_68 : decode b_N_newDay 68 = .ok (.aload_n 0, 1) := by decide +kernel
theorem d_N_newDay_69 : decode b_N_newDay 69 = .ok (.getfield 43, 3) := by decide +kernel
theorem d_N_newDay_72 : decode b_N_newDay 72 = .ok (.iload_n 1, 1) := by decide +kernel
theorem d_N_newDay_73 : decode b_N_newDay 73 = .ok (.iaload, 1) := by decide +kernel
theorem d_N_newDay_74 : decode b_N_newDay 74 = .ok (.aload_n 0, 1) := by decide +kernel
theorem d_N_newDay_75 : decode b_N_newDay 75 = .ok (.getfield 98, 3) := by decide +kernel
theorem d_N_newDay_78 : decode b_N_newDay 78 = .ok (.if_icmp .ge 31, 3) := by decide +kernel
theorem d_N_newDay_81 : decode b_N_newDay 81 = .ok (.aload_n 0, 1) := by decide +kernel
theorem d_N_newDay_82 : decode b_N_newDay 82 = .ok (.getfield 43, 3) := by decide +kernel
theorem d_N_newDay_85 : decode b_N_newDay 85 = .ok (.iload_n 1, 1) := by decide +kernel
theorem d_N_newDay_86 : decode b_N_newDay 86 = .ok (.dup2, 1) := by decide +kernel
theorem d_N_newDay_87 : decode b_N_newDay 87 = .ok (.iaload, 1) := by decide +kernel
theorem d_N_newDay_88 : decode b_N_newDay 88 = .ok (.bipush 10, 2) := by decide +kernel
theorem d_N_newDay_90 : decode b_N_newDay 90 = .ok (.iadd, 1) := by decide +kernel
theorem d_N_newDay_91 : decode b_N_newDay 91 = .ok (.iastore, 1) := by decide +kernel
theorem d_N_newDay_92 : decode b_N_newDay 92 = .ok (.aload_n 0, 1) := by decide +kernel
theorem d_N_newDay_93 : decode b_N_newDay 93 = .ok (.aload_n 0, 1) := by decide +kernel
theorem d_N_newDay_94 : decode b_N_newDay 94 = .ok (.getfield 40, 3) := by decide +kernel
theorem d_N_newDay_97 : decode b_N_newDay 97 = .ok (.iload_n 1, 1) := by decide +kernel
theorem d_N_newDay_98 : decode b_N_newDay 98 = .ok (.iaload, 1) := by decide +kernel
theorem d_N_newDay_99 : decode b_N_newDay 99 = .ok (.iconst 1, 1) := by decide +kernel
theorem d_N_newDay_100 : decode b_N_newDay 100 = .ok (.iconst 1, 1) := by decide +kernel
theorem d_N_newDay_101 : decode b_N_newDay 101 = .ok (.iload_n 1, 1) := by decide +kernel
theorem d_N_newDay_102 : decode b_N_newDay 102 = .ok (.iconst 4, 1) := by decide +kernel
theorem d_N_newDay_103 : decode b_N_newDay 103 = .ok (.invokevirtual 154, 3) := by decide +kernel
theorem d_N_newDay_106 : decode b_N_newDay 106 = .ok (.goto 88, 3) := by decide +kernel
theorem d_N_newDay_109 : decode b_N_newDay 109 = .ok (.aload_n 0, 1) := by decide +kernel
theorem d_N_newDay_110 : decode b_N_newDay 110 = .ok (.getfield 52, 3) := by decide +kernel
theorem d_N_newDay_113 : decode b_N_newDay 113 = .ok (.iload_n 1, 1) := by decide +kernel
theorem d_N_newDay_114 : decode b_N_newDay 114 = .ok (.iaload, 1) := by decide +kernel
theorem d_N_newDay_115 : decode b_N_newDay 115 = .ok (.iconst 1, 1) := by decide +kernel
theorem d_N_newDay_116 : decode b_N_newDay 116 = .ok (.if_icmp .ne 36, 3) := by decide +kernel
theorem d_N_newDay_119 : decode b_N_newDay 119 = .ok (.aload_n 0, 1) := by decide +kernel
theorem d_N_newDay_120 : decode b_N_newDay 120 = .ok (.getfield 55, 3) := by decide +kernel
theorem d_N_newDay_123 : decode b_N_newDay 123 = .ok (.iload_n 1, 1) := by decide +kernel
theorem d_N_newDay_124 : decode b_N_newDay 124 = .ok (.iaload, 1) := by decide +kernel
theorem d_N_newDay_125 : decode b_N_newDay 125 = .ok (.aload_n 0, 1) := by decide +kernel
theorem d_N_newDay_126 : decode b_N_newDay 126 = .ok (.getfield 98, 3) := by decide +kernel
theorem d_N_newDay_129 : decode b_N_newDay 129 = .ok (.if_icmp .ge 23, 3) := by decide +kernel
theorem d_N_newDay_132 : decode b_N_newDay 132 = .ok (.aload_n 0, 1) := by decide +kernel
theorem d_N_newDay_133 : decode b_N_newDay 133 = .ok (.getfield 52, 3) := by decide +kernel
theorem d_N_newDay_136 : decode b_N_newDay 136 = .ok (.iload_n 1, 1) := by decide +kernel
theorem d_N_newDay_137 : decode b_N_newDay 137 = .ok (.iconst 2, 1) := by decide +kernel
theorem d_N_newDay_138 : decode b_N_newDay 138 = .ok (.iastore, 1) := by decide +kernel
theorem d_N_newDay_139 : decode b_N_newDay 139 = .ok (.aload_n 0, 1) := by decide +kernel
theorem d_N_newDay_140 : decode b_N_newDay 140 = .ok (.getfield 55, 3) := by decide +kernel
theorem d_N_newDay_143 : decode b_N_newDay 143 = .ok (.iload_n 1, 1) := by decide +kernel
theorem d_N_newDay_144 : decode b_N_newDay 144 = .ok (.dup2, 1) := by decide +kernel
theorem d_N_newDay_145 : decode b_N_newDay 145 = .ok (.iaload, 1) := by decide +kernel
theorem d_N_newDay_146 : decode b_N_newDay 146 = .ok (.iconst 2, 1) := by decide +kernel
theorem d_N_newDay_147 : decode b_N_newDay 147 = .ok (.iadd, 1) := by decide +kernel
theorem d_N_newDay_148 : decode b_N_newDay 148 = .ok (.iastore, 1) := by decide +kernel
theorem d_N_newDay_149 : decode b_N_newDay 149 = .ok (.goto 45, 3) := by decide +kernel
theorem d_N_newDay_152 : decode b_N_newDay 152 = .ok (.aload_n 0, 1) := by decide +kernel
theorem d_N_newDay_153 : decode b_N_newDay 153 = .ok (.getfield 52, 3) := by decide +kernel
theorem d_N_newDay_156 : decode b_N_newDay 156 = .ok (.iload_n 1, 1) := by decide +kernel
theorem d_N_newDay_157 : decode b_N_newDay 157 = .ok (.iaload, 1) := by decide +kernel
theorem d_N_newDay_158 : decode b_N_newDay 158 = .ok (.iconst 2, 1) := by decide +kernel
theorem d_N_newDay_159 : decode b_N_newDay 159 = .ok (.if_icmp .ne 35, 3) := by decide +kernel
theorem d_N_newDay_162 : decode b_N_newDay 162 = .ok (.aload_n 0, 1) := by decide +kernel
theorem d_N_newDay_163 : decode b_N_newDay 163 = .ok (.getfield 55, 3) := by decide +kernel
theorem d_N_newDay_166 : decode b_N_newDay 166 = .ok (.iload_n 1, 1) := by decide +kernel
theorem d_N_newDay_167 : decode b_N_newDay 167 = .ok (.iaload, 1) := by decide +kernel
theorem d_N_newDay_168 : decode b_N_newDay 168 = .ok (.aload_n 0, 1) := by decide +kernel
theorem d_N_newDay_169 : decode b_N_newDay 169 = .ok (.getfield 98, 3) := by decide +kernel
theorem d_N_newDay_172 : decode b_N_newDay 172 = .ok (.if_icmp .ge 22, 3) := by decide +kernel
theorem d_N_newDay_175 : decode b_N_newDay 175 = .ok (.aload_n 0, 1) := by decide +kernel
theorem d_N_newDay_176 : decode b_N_newDay 176 = .ok (.getfield 40, 3) := by decide +kernel
theorem d_N_newDay_179 : decode b_N_newDay 179 = .ok (.iload_n 1, 1) := by decide +kernel
theorem d_N_newDay_180 : decode b_N_newDay 180 = .ok (.iaload, 1) := by decide +kernel
theorem d_N_newDay_181 : decode b_N_newDay 181 = .ok (.istore_n 2, 1) := by decide +kernel
theorem d_N_newDay_182 : decode b_N_newDay 182 = .ok (.aload_n 0, 1) := by decide +kernel
theorem d_N_newDay_183 : decode b_N_newDay 183 = .ok (.iload_n 1, 1) := by decide +kernel
theorem d_N_newDay_184 : decode b_N_newDay 184 = .ok (.invokevirtual 168, 3) := by decide +kernel
theorem d_N_newDay_187 : decode b_N_newDay 187 = .ok (.aload_n 0, 1) := by decide +kernel
theorem d_N_newDay_188 : decode b_N_newDay 188 = .ok (.iload_n 2, 1) := by decide +kernel
theorem d_N_newDay_189 : decode b_N_newDay 189 = .ok (.iconst 4, 1) := by decide +kernel
theorem d_N_newDay_190 : decode b_N_newDay 190 = .ok (.iload_n 1, 1) := by decide +kernel
theorem d_N_newDay_191 : decode b_N_newDay 191 = .ok (.invokevirtual 171, 3) := by decide +kernel
theorem d_N_newDay_194 : decode b_N_newDay 194 = .ok (.return_, 1) := by decide +kernel
theorem d_N_pass_0 : decode b_N_pass 0 = .ok (.iload_n 1, 1) := by decide +kernel
theorem d_N_pass_1 : decode b_N_pass 1 = .ok (.iconst 1, 1) := by decide +kernel
theorem d_N_pass_2 : decode b_N_pass 2 = .ok (.bipush 20, 2) := by decide +kernel
theorem d_N_pass_4 : decode b_N_pass 4 = .ok (.invokestatic 116, 3) := by decide +kernel
theorem d_N_pass_7 : decode b_N_pass 7 = .ok (.ifCond .ne 9, 3) := by decide +kernel
theorem d_N_pass_10 : decode b_N_pass 10 = .ok (.aload_n 0, 1) := by decide +kernel
theorem d_N_pass_11 : decode b_N_pass 11 = .ok (.iconst 1, 1) := by decide +kernel
theorem d_N_pass_12 : decode b_N_pass 12 = .ok (.invokevirtual 122, 3) := by decide +kernel
theorem d_N_pass_15 : decode b_N_pass 15 = .ok (.ireturn, 1) := by decide +kernel
theorem d_N_pass_16 : decode b_N_pass 16 = .ok (.iconst 0, 1) := by decide +kernel
theorem d_N_pass_17 : decode b_N_pass 17 = .ok (.istore_n 2, 1) := by decide +kernel
theorem d_N_pass_18 : decode b_N_pass 18 = .ok (.iload_n 2, 1) := by decide +kernel
theorem d_N_pass_19 : decode b_N_pass 19 = .ok (.iload_n 1, 1) := by decide +kernel
theorem d_N_pass_20 : decode b_N_pass 20 = .ok (.if_icmp .ge 38, 3) := by decide +kernel
theorem d_N_pass_23 : decode b_N_pass 23 = .ok (.aload_n 0, 1) := by decide +kernel
theorem d_N_pass_24 : decode b_N_pass 24 = .ok (.dup, 1) := by decide +kernel
theorem d_N_pass_25 : decode b_N_pass 25 = .ok (.getfield 98, 3) := by decide +kernel
theorem d_N_pass_28 : decode b_N_pass 28 = .ok (.iconst 1, 1) := by decide +kernel
theorem d_N_pass_29 : decode b_N_pass 29 = .ok (.iadd, 1) := by decide +kernel
theorem d_N_pass_30 : decode b_N_pass 30 = .ok (.putfield 98, 3) := by decide +kernel
theorem d_N_pass_33 : decode b_N_pass 33 = .ok (.iconst 0, 1) := by decide +kernel
theorem d_N_pass_34 : decode b_N_pass 34 = .ok (.istore_n 3, 1) := by decide +kernel
theorem d_N_pass_35 : decode b_N_pass 35 = .ok (.iload_n 3, 1) := by decide +kernel
theorem d_N_pass_36 : decode b_N_pass 36 = .ok (.bipush 10, 2) := by decide +kernel
theorem d_N_pass_38 : decode b_N_pass 38 = .ok (.if_icmp .ge 14, 3) := by decide +kernel
theorem d_N_pass_41 : decode b_N_pass 41 = .ok (.aload_n 0, 1) := by decide +kernel
theorem d_N_pass_42 : decode b_N_pass 42 = .ok (.iload_n 3, 1) := by decide +kernel
theorem d_N_pass_43 : decode b_N_pass 43 = .ok (.invokevirtual 180, 3) := by decide +kernel
theorem d_N_pass_46 : decode b_N_pass 46 = .ok (.iinc 3 1, 3) := by decide +kernel
theorem d_N_pass_49 : decode b_N_pass 49 = .ok (.goto (-14), 3) := by decide +kernel
theorem d_N_pass_52 : decode b_N_pass 52 = .ok (.iinc 2 1, 3) := by decide +kernel
theorem d_N_pass_55 : decode b_N_pass 55 = .ok (.goto (-37), 3) := by decide +kernel
theorem d_N_pass_58 : decode b_N_pass 58 = .ok (.aload_n 0, 1) := by decide +kernel
theorem d_N_pass_59 : decode b_N_pass 59 = .ok (.aload_n 0, 1) := by decide +kernel
theorem d_N_pass_60 : decode b_N_pass 60 = .ok (.getfield 98, 3) := by decide +kernel
theorem d_N_pass_63 : decode b_N_pass 63 = .ok (.invokevirtual 126, 3) := by decide +kernel
theorem d_N_pass_66 : decode b_N_pass 66 = .ok (.ireturn, 1) := by decide +kernel
theorem d_N_message_0 : decode b_N_message 0 = .ok (.iload_n 1, 1) := by decide +kernel
theorem d_N_message_1 : decode b_N_message 1 = .ok (.iconst 0, 1) := by decide +kernel
theorem d_N_message_2 : decode b_N_message 2 = .ok (.iconst 3, 1) := by decide +kernel
theorem d_N_message_3 : decode b_N_message 3 = .ok (.invokestatic 116, 3) := by decide +kernel
theorem d_N_message_6 : decode b_N_message 6 = .ok (.ifCond .ne 9, 3) := by decide +kernel
theorem d_N_message_9 : decode b_N_message 9 = .ok (.aload_n 0, 1) := by decide +kernel
theorem d_N_message_10 : decode b_N_message 10 = .ok (.iconst 1, 1) := by decide +kernel
theorem d_N_message_11 : decode b_N_message 11 = .ok (.invokevirtual 122, 3) := by decide +kernel
theorem d_N_message_14 : decode b_N_message 14 = .ok (.ireturn, 1) := by decide +kernel
theorem d_N_message_15 : decode b_N_message 15 = .ok (.aload_n 0, 1) := by decide +kernel
theorem d_N_message_16 : decode b_N_message 16 = .ok (.getfield 21, 3) := by decide +kernel
theorem d_N_message_19 : decode b_N_message 19 = .ok (.iload_n 1, 1) := by decide +kernel
theorem d_N_message_20 : decode b_N_message 20 = .ok (.iaload, 1) := by decide +kernel
theorem d_N_message_21 : decode b_N_message 21 = .ok (.ifCond .ne 11, 3) := by decide +kernel
theorem d_N_message_24 : decode b_N_message 24 = .ok (.aload_n 0, 1) := by decide +kernel
theorem d_N_message_25 : decode b_N_message 25 = .ok (.iconst 2, 1) := by decide +kernel
theorem d_N_message_26 : decode b_N_message 26 = .ok (.invokevirtual 122, 3) := by decide +kernel
theorem d_N_message_29 : decode b_N_message 29 = .ok (.goto 16, 3) := by decide +kernel
theorem d_N_message_32 : decode b_N_message 32 = .ok (.aload_n 0, 1) := by decide +kernel
theorem d_N_message_33 : decode b_N_message 33 = .ok (.aload_n 0, 1) := by decide +kernel
theorem d_N_message_34 : decode b_N_message 34 = .ok (.getfield 25, 3) := by decide +kernel
theorem d_N_message_37 : decode b_N_message 37 = .ok (.bipush 12, 2) := by decide +kernel
theorem d_N_message_39 : decode b_N_message 39 = .ok (.iload_n 1, 1) := by decide +kernel
theorem d_N_message_40 : decode b_N_message 40 = .ok (.imul, 1) := by decide +kernel
theorem d_N_message_41 : decode b_N_message 41 = .ok (.iaload, 1) := by decide +kernel
theorem d_N_message_42 : decode b_N_message 42 = .ok (.invokevirtual 126, 3) := by decide +kernel
theorem d_N_message_45 : decode b_N_message 45 = .ok (.ireturn, 1) := by decide +kernel
theorem d_N_acknowledge_0 : decode b_N_acknowledge 0 = .ok (.iload_n 1, 1) := by decide +kernel
theorem d_N_acknowledge_1 : decode b_N_acknowledge 1 = .ok (.iconst 0, 1) := by decide +kernel
theorem d_N_acknowledge_2 : decode b_N_acknowledge 2 = .ok (.iconst 3, 1) := by decide +kernel
theorem d_N_acknowledge_3 : decode b_N_acknowledge 3 = .ok (.invokestatic 116, 3) := by decide +kernel
theorem d_N_acknowledge_6 : decode b_N_acknowledge 6 = .ok (.ifCond .ne 9, 3) := by decide +kernel
theorem d_N_acknowledge_9 : decode b_N_acknowledge 9 = .ok (.aload_n 0, 1) := by decide +kernel
theorem d_N_acknowledge_10 : decode b_N_acknowledge 10 = .ok (.iconst 1, 1) := by decide +kernel
theorem d_N_acknowledge_11 : decode b_N_acknowledge 11 = .ok (.invokevirtual 122, 3) := by decide +kernel
theorem d_N_acknowledge_14 : decode b_N_acknowledge 14 = .ok (.ireturn, 1) := by decide +kernel
theorem d_N_acknowledge_15 : decode b_N_acknowledge 15 = .ok (.aload_n 0, 1) := by decide +kernel
theorem d_N_acknowledge_16 : decode b_N_acknowledge 16 = .ok (.getfield 21, 3) := by decide +kernel
theorem d_N_acknowledge_19 : decode b_N_acknowledge 19 = .ok (.iload_n 1, 1) := by decide +kernel
theorem d_N_acknowledge_20 : decode b_N_acknowledge 20 = .ok (.iaload, 1) := by decide +kernel
theorem d_N_acknowledge_21 : decode b_N_acknowledge 21 = .ok (.ifCond .ne 9, 3) := by decide +kernel
theorem d_N_acknowledge_24 : decode b_N_acknowledge 24 = .ok (.aload_n 0, 1) := by decide +kernel
theorem d_N_acknowledge_25 : decode b_N_acknowledge 25 = .ok (.iconst 2, 1) := by decide +kernel
theorem d_N_acknowledge_26 : decode b_N_acknowledge 26 = .ok (.invokevirtual 122, 3) := by decide +kernel
theorem d_N_acknowledge_29 : decode b_N_acknowledge 29 = .ok (.ireturn, 1) := by decide +kernel
theorem d_N_acknowledge_30 : decode b_N_acknowledge 30 = .ok (.aload_n 0, 1) := by decide +kernel
theorem d_N_acknowledge_31 : decode b_N_acknowledge 31 = .ok (.iload_n 1, 1) := by decide +kernel
theorem d_N_acknowledge_32 : decode b_N_acknowledge 32 = .ok (.invokevirtual 101, 3) := by decide +kernel
theorem d_N_acknowledge_35 : decode b_N_acknowledge 35 = .ok (.aload_n 0, 1) := by decide +kernel
theorem d_N_acknowledge_36 : decode b_N_acknowledge 36 = .ok (.aload_n 0, 1) := by decide +kernel
theorem d_N_acknowledge_37 : decode b_N_acknowledge 37 = .ok (.getfield 21, 3) := by decide +kernel
theorem d_N_acknowledge_40 : decode b_N_acknowledge 40 = .ok (.iload_n 1, 1) := by decide +kernel
theorem d_N_acknowledge_41 : decode b_N_acknowledge 41 = .ok (.iaload, 1) := by decide +kernel
theorem d_N_acknowledge_42 : decode b_N_acknowledge 42 = .ok (.invokevirtual 126, 3) := by decide +kernel
theorem d_N_acknowledge_45 : decode b_N_acknowledge 45 = .ok (.ireturn, 1) := by decide +kernel
theorem d_N_balance_0 : decode b_N_balance 0 = .ok (.iload_n 1, 1) := by decide +kernel
theorem d_N_balance_1 : decode b_N_balance 1 = .ok (.iconst 0, 1) := by decide +kernel
theorem d_N_balance_2 : decode b_N_balance 2 = .ok (.iconst 3, 1) := by decide +kernel
theorem d_N_balance_3 : decode b_N_balance 3 = .ok (.invokestatic 116, 3) := by decide +kernel
theorem d_N_balance_6 : decode b_N_balance 6 = .ok (.ifCond .eq 16, 3) := by decide +kernel
theorem d_N_balance_9 : decode b_N_balance 9 = .ok (.aload_n 0, 1) := by decide +kernel
theorem d_N_balance_10 : decode b_N_balance 10 = .ok (.aload_n 0, 1) := by decide +kernel
theorem d_N_balance_11 : decode b_N_balance 11 = .ok (.getfield 15, 3) := by decide +kernel
theorem d_N_balance_14 : decode b_N_balance 14 = .ok (.iload_n 1, 1) := by decide +kernel
theorem d_N_balance_15 : decode b_N_balance 15 = .ok (.laload, 1) := by decide +kernel
theorem d_N_balance_16 : decode b_N_balance 16 = .ok (.invokevirtual 129, 3) := by decide +kernel
theorem d_N_balance_19 : decode b_N_balance 19 = .ok (.goto 9, 3) := by decide +kernel
theorem d_N_balance_22 : decode b_N_balance 22 = .ok (.aload_n 0, 1) := by decide +kernel
theorem d_N_balance_23 : decode b_N_balance 23 = .ok (.iconst 1, 1) := by decide +kernel
theorem d_N_balance_24 : decode b_N_balance 24 = .ok (.invokevirtual 122, 3) := by decide +kernel
theorem d_N_balance_27 : decode b_N_balance 27 = .ok (.i2d, 1) := by decide +kernel
theorem d_N_balance_28 : decode b_N_balance 28 = .ok (.dreturn, 1) := by decide +kernel
theorem d_N_paid_0 : decode b_N_paid 0 = .ok (.iload_n 1, 1) := by decide +kernel
theorem d_N_paid_1 : decode b_N_paid 1 = .ok (.iconst 0, 1) := by decide +kernel
theorem d_N_paid_2 : decode b_N_paid 2 = .ok (.iconst 3, 1) := by decide +kernel
theorem d_N_paid_3 : decode b_N_paid 3 = .ok (.invokestatic 116, 3) := by decide +kernel
theorem d_N_paid_6 : decode b_N_paid 6 = .ok (.ifCond .eq 29, 3) := by decide +kernel
theorem d_N_paid_9 : decode b_N_paid 9 = .ok (.iload_n 2, 1) := by decide +kernel
theorem d_N_paid_10 : decode b_N_paid 10 = .ok (.iconst 0, 1) := by decide +kernel
theorem d_N_paid_11 : decode b_N_paid 11 = .ok (.iconst 3, 1) := by decide +kernel
theorem d_N_paid_12 : decode b_N_paid 12 = .ok (.invokestatic 116, 3) := by decide +kernel
theorem d_N_paid_15 : decode b_N_paid 15 = .ok (.ifCond .eq 20, 3) := by decide +kernel
theorem d_N_paid_18 : decode b_N_paid 18 = .ok (.aload_n 0, 1) := by decide +kernel
theorem d_N_paid_19 : decode b_N_paid 19 = .ok (.aload_n 0, 1) := by decide +kernel
theorem d_N_paid_20 : decode b_N_paid 20 = .ok (.getfield 18, 3) := by decide +kernel
theorem d_N_paid_23 : decode b_N_paid 23 = .ok (.iconst 4, 1) := by decide +kernel
theorem d_N_paid_24 : decode b_N_paid 24 = .ok (.iload_n 1, 1) := by decide +kernel
theorem d_N_paid_25 : decode b_N_paid 25 = .ok (.imul, 1) := by decide +kernel
theorem d_N_paid_26 : decode b_N_paid 26 = .ok (.iload_n 2, 1) := by decide +kernel
theorem d_N_paid_27 : decode b_N_paid 27 = .ok (.iadd, 1) := by decide +kernel
theorem d_N_paid_28 : decode b_N_paid 28 = .ok (.laload, 1) := by decide +kernel
theorem d_N_paid_29 : decode b_N_paid 29 = .ok (.invokevirtual 129, 3) := by decide +kernel
theorem d_N_paid_32 : decode b_N_paid 32 = .ok (.goto 9, 3) := by decide +kernel
theorem d_N_paid_35 : decode b_N_paid 35 = .ok (.aload_n 0, 1) := by decide +kernel
theorem d_N_paid_36 : decode b_N_paid 36 = .ok (.iconst 1, 1) := by decide +kernel
theorem d_N_paid_37 : decode b_N_paid 37 = .ok (.invokevirtual 122, 3) := by decide +kernel
theorem d_N_paid_40 : decode b_N_paid 40 = .ok (.i2d, 1) := by decide +kernel
theorem d_N_paid_41 : decode b_N_paid 41 = .ok (.dreturn, 1) := by decide +kernel
