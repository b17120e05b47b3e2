theorem d_S_handOverUnder_0 : decode b_S_handOverUnder 0 = .ok (.iconst 0, 1) := by decide +kernel
theorem d_S_handOverUnder_1 : decode b_S_handOverUnder 1 = .ok (.istore_n 3, 1) := by decide +kernel
theorem d_S_handOverUnder_2 : decode b_S_handOverUnder 2 = .ok (.iload_n 3, 1) := by decide +kernel
theorem d_S_handOverUnder_3 : decode b_S_handOverUnder 3 = .ok (.aload_n 0, 1) := by decide +kernel
theorem d_S_handOverUnder_4 : decode b_S_handOverUnder 4 = .ok (.getfield 18, 3) := by decide +kernel
theorem d_S_handOverUnder_7 : decode b_S_handOverUnder 7 = .ok (.if_icmp .ge 28, 3) := by decide +kernel
theorem d_S_handOverUnder_10 : decode b_S_handOverUnder 10 = .ok (.aload_n 0, 1) := by decide +kernel
theorem d_S_handOverUnder_11 : decode b_S_handOverUnder 11 = .ok (.iload_n 3, 1) := by decide +kernel
theorem d_S_handOverUnder_12 : decode b_S_handOverUnder 12 = .ok (.iload_n 1, 1) := by decide +kernel
theorem d_S_handOverUnder_13 : decode b_S_handOverUnder 13 = .ok (.invokevirtual 39, 3) := by decide +kernel
theorem d_S_handOverUnder_16 : decode b_S_handOverUnder 16 = .ok (.ifCond .eq 13, 3) := by decide +kernel
theorem d_S_handOverUnder_19 : decode b_S_handOverUnder 19 = .ok (.aload_n 0, 1) := by decide +kernel
theorem d_S_handOverUnder_20 : decode b_S_handOverUnder 20 = .ok (.getfield 11, 3) := by decide +kernel
theorem d_S_handOverUnder_23 : decode b_S_handOverUnder 23 = .ok (.iload_n 3, 1) := by decide +kernel
theorem d_S_handOverUnder_24 : decode b_S_handOverUnder 24 = .ok (.aaload, 1) := by decide +kernel
theorem d_S_handOverUnder_25 : decode b_S_handOverUnder 25 = .ok (.iload_n 2, 1) := by decide +kernel
theorem d_S_handOverUnder_26 : decode b_S_handOverUnder 26 = .ok (.putfield 26, 3) := by decide +kernel
theorem d_S_handOverUnder_29 : decode b_S_handOverUnder 29 = .ok (.iinc 3 1, 3) := by decide +kernel
theorem d_S_handOverUnder_32 : decode b_S_handOverUnder 32 = .ok (.goto (-30), 3) := by decide +kernel
theorem d_S_handOverUnder_35 : decode b_S_handOverUnder 35 = .ok (.return_, 1) := by decide +kernel
theorem d_N_init_0 : decode b_N_init 0 = .ok (.aload_n 0, 1) := by decide +kernel
theorem d_N_init_1 : decode b_N_init 1 = .ok (.invokespecial 1, 3) := by decide +kernel
theorem d_N_init_4 : decode b_N_init 4 = .ok (.aload_n 0, 1) := by decide +kernel
theorem d_N_init_5 : decode b_N_init 5 = .ok (.iconst 4, 1) := by decide +kernel
theorem d_N_init_6 : decode b_N_init 6 = .ok (.newarray .long, 2) := by decide +kernel
theorem d_N_init_8 : decode b_N_init 8 = .ok (.dup, 1) := by decide +kernel
theorem d_N_init_9 : decode b_N_init 9 = .ok (.iconst 0, 1) := by decide +kernel
theorem d_N_init_10 : decode b_N_init 10 = .ok (.ldc2_w 7, 3) := by decide +kernel
theorem d_N_init_13 : decode b_N_init 13 = .ok (.lastore, 1) := by decide +kernel
theorem d_N_init_14 : decode b_N_init 14 = .ok (.dup, 1) := by decide +kernel
theorem d_N_init_15 : decode b_N_init 15 = .ok (.iconst 1, 1) := by decide +kernel
theorem d_N_init_16 : decode b_N_init 16 = .ok (.ldc2_w 7, 3) := by decide +kernel
theorem d_N_init_19 : decode b_N_init 19 = .ok (.lastore, 1) := by decide +kernel
theorem d_N_init_20 : decode b_N_init 20 = .ok (.dup, 1) := by decide +kernel
theorem d_N_init_21 : decode b_N_init 21 = .ok (.iconst 2, 1) := by decide +kernel
theorem d_N_init_22 : decode b_N_init 22 = .ok (.ldc2_w 7, 3) := by decide +kernel
theorem d_N_init_25 : decode b_N_init 25 = .ok (.lastore, 1) := by decide +kernel
theorem d_N_init_26 : decode b_N_init 26 = .ok (.dup, 1) := by decide +kernel
theorem d_N_init_27 : decode b_N_init 27 = .ok (.iconst 3, 1) := by decide +kernel
theorem d_N_init_28 : decode b_N_init 28 = .ok (.ldc2_w 7, 3) := by decide +kernel
theorem d_N_init_31 : decode b_N_init 31 = .ok (.lastore, 1) := by decide +kernel
theorem d_N_init_32 : decode b_N_init 32 = .ok (.putfield 9, 3) := by decide +kernel
theorem d_N_init_35 : decode b_N_init 35 = .ok (.aload_n 0, 1) := by decide +kernel
theorem d_N_init_36 : decode b_N_init 36 = .ok (.iconst 4, 1) := by decide +kernel
theorem d_N_init_37 : decode b_N_init 37 = .ok (.newarray .long, 2) := by decide +kernel
theorem d_N_init_39 : decode b_N_init 39 = .ok (.putfield 15, 3) := by decide +kernel
theorem d_N_init_42 : decode b_N_init 42 = .ok (.aload_n 0, 1) := by decide +kernel
theorem d_N_init_43 : decode b_N_init 43 = .ok (.bipush 16, 2) := by decide +kernel
theorem d_N_init_45 : decode b_N_init 45 = .ok (.newarray .long, 2) := by decide +kernel
theorem d_N_init_47 : decode b_N_init 47 = .ok (.putfield 18, 3) := by decide +kernel
theorem d_N_init_50 : decode b_N_init 50 = .ok (.aload_n 0, 1) := by decide +kernel
theorem d_N_init_51 : decode b_N_init 51 = .ok (.iconst 4, 1) := by decide +kernel
theorem d_N_init_52 : decode b_N_init 52 = .ok (.newarray .int, 2) := by decide +kernel
theorem d_N_init_54 : decode b_N_init 54 = .ok (.putfield 21, 3) := by decide +kernel
theorem d_N_init_57 : decode b_N_init 57 = .ok (.aload_n 0, 1) := by decide +kernel
theorem d_N_init_58 : decode b_N_init 58 = .ok (.bipush 48, 2) := by decide +kernel
theorem d_N_init_60 : decode b_N_init 60 = .ok (.newarray .int, 2) := by decide +kernel
theorem d_N_init_62 : decode b_N_init 62 = .ok (.putfield 25, 3) := by decide +kernel
theorem d_N_init_65 : decode b_N_init 65 = .ok (.aload_n 0, 1) := by decide +kernel
theorem d_N_init_66 : decode b_N_init 66 = .ok (.bipush 8, 2) := by decide +kernel
theorem d_N_init_68 : decode b_N_init 68 = .ok (.newarray .int, 2) := by decide +kernel
theorem d_N_init_70 : decode b_N_init 70 = .ok (.putfield 28, 3) := by decide +kernel
theorem d_N_init_73 : decode b_N_init 73 = .ok (.aload_n 0, 1) := by decide +kernel
theorem d_N_init_74 : decode b_N_init 74 = .ok (.bipush 8, 2) := by decide +kernel
theorem d_N_init_76 : decode b_N_init 76 = .ok (.newarray .int, 2) := by decide +kernel
theorem d_N_init_78 : decode b_N_init 78 = .ok (.putfield 31, 3) := by decide +kernel
theorem d_N_init_81 : decode b_N_init 81 = .ok (.aload_n 0, 1) := by decide +kernel
theorem d_N_init_82 : decode b_N_init 82 = .ok (.bipush 8, 2) := by decide +kernel
theorem d_N_init_84 : decode b_N_init 84 = .ok (.newarray .int, 2) := by decide +kernel
theorem d_N_init_86 : decode b_N_init 86 = .ok (.putfield 34, 3) := by decide +kernel
theorem d_N_init_89 : decode b_N_init 89 = .ok (.aload_n 0, 1) := by decide +kernel
theorem d_N_init_90 : decode b_N_init 90 = .ok (.bipush 8, 2) := by decide +kernel
theorem d_N_init_92 : decode b_N_init 92 = .ok (.newarray .int, 2) := by decide +kernel
theorem d_N_init_94 : decode b_N_init 94 = .ok (.putfield 37, 3) := by decide +kernel
theorem d_N_init_97 : decode b_N_init 97 = .ok (.aload_n 0, 1) := by decide +kernel
theorem d_N_init_98 : decode b_N_init 98 = .ok (.bipush 10, 2) := by decide +kernel
theorem d_N_init_100 : decode b_N_init 100 = .ok (.newarray .int, 2) := by decide +kernel
theorem d_N_init_102 : decode b_N_init 102 = .ok (.dup, 1) := by decide +kernel
theorem d_N_init_103 : decode b_N_init 103 = .ok (.iconst 0, 1) := by decide +kernel
theorem d_N_init_104 : decode b_N_init 104 = .ok (.iconst (-1), 1) := by decide +kernel
theorem d_N_init_105 : decode b_N_init 105 = .ok (.iastore, 1) := by decide +kernel
theorem d_N_init_106 : decode b_N_init 106 = .ok (.dup, 1) := by decide +kernel
theorem d_N_init_107 : decode b_N_init 107 = .ok (.iconst 1, 1) := by decide +kernel
theorem d_N_init_108 : decode b_N_init 108 = .ok (.iconst (-1), 1) := by decide +kernel
theorem d_N_init_109 : decode b_N_init 109 = .ok (.iastore, 1) := by decide +kernel
theorem d_N_init_110 : decode b_N_init 110 = .ok (.dup, 1) := by decide +kernel
theorem d_N_init_111 : decode b_N_init 111 = .ok (.iconst 2, 1) := by decide +kernel
theorem d_N_init_112 : decode b_N_init 112 = .ok (.iconst (-1), 1) := by decide +kernel
theorem d_N_init_113 : decode b_N_init 113 = .ok (.iastore, 1) := by decide +kernel
theorem d_N_init_114 : decode b_N_init 114 = .ok (.dup, 1) := by decide +kernel
theorem d_N_init_115 : decode b_N_init 115 = .ok (.iconst 3, 1) := by decide +kernel
theorem d_N_init_116 : decode b_N_init 116 = .ok (.iconst (-1), 1) := by decide +kernel
theorem d_N_init_117 : decode b_N_init 117 = .ok (.iastore, 1) := by decide +kernel
theorem d_N_init_118 : decode b_N_init 118 = .ok (.dup, 1) := by decide +kernel
theorem d_N_init_119 : decode b_N_init 119 = .ok (.iconst 4, 1) := by decide +kernel
theorem d_N_init_120 : decode b_N_init 120 = .ok (.iconst (-1), 1) := by decide +kernel
theorem d_N_init_121 : decode b_N_init 121 = .ok (.iastore, 1) := by decide +kernel
theorem d_N_init_122 : decode b_N_init 122 = .ok (.dup, 1) := by decide +kernel
theorem d_N_init_123 : decode b_N_init 123 = .ok (.iconst 5, 1) := by decide +kernel
theorem d_N_init_124 : decode b_N_init 124 = .ok (.iconst (-1), 1) := by decide +kernel
theorem d_N_init_125 : decode b_N_init 125 = .ok (.iastore, 1) := by decide +kernel
theorem d_N_init_126 : decode b_N_init 126 = .ok (.dup, 1) := by decide +kernel
theorem d_N_init_127 : decode b_N_init 127 = .ok (.bipush 6, 2) := by decide +kernel
theorem d_N_init_129 : decode b_N_init 129 = .ok (.iconst (-1), 1) := by decide +kernel
theorem d_N_init_130 : decode b_N_init 130 = .ok (.iastore, 1) := by decide +kernel
theorem d_N_init_131 : decode b_N_init 131 = .ok (.dup, 1) := by decide +kernel
theorem d_N_init_132 : decode b_N_init 132 = .ok (.bipush 7, 2) := by decide +kernel
theorem d_N_init_134 : decode b_N_init 134 = .ok (.iconst (-1), 1) := by decide +kernel
theorem d_N_init_135 : decode b_N_init 135 = .ok (.iastore, 1) := by decide +kernel
theorem d_N_init_136 : decode b_N_init 136 = .ok (.dup, 1) := by decide +kernel
theorem d_N_init_137 : decode b_N_init 137 = .ok (.bipush 8, 2) := by decide +kernel
theorem d_N_init_139 : decode b_N_init 139 = .ok (.iconst (-1), 1) := by decide +kernel
theorem d_N_init_140 : decode b_N_init 140 = .ok (.iastore, 1) := by decide +kernel
theorem d_N_init_141 : decode b_N_init 141 = .ok (.dup, 1) := by decide +kernel
theorem d_N_init_142 : decode b_N_init 142 = .ok (.bipush 9, 2) := by decide +kernel
theorem d_N_init_144 : decode b_N_init 144 = .ok (.iconst (-1), 1) := by decide +kernel
theorem d_N_init_145 : decode b_N_init 145 = .ok (.iastore, 1) := by decide +kernel
theorem d_N_init_146 : decode b_N_init 146 = .ok (.putfield 40, 3) := by decide +kernel
theorem d_N_init_149 : decode b_N_init 149 = .ok (.aload_n 0, 1) := by decide +kernel
theorem d_N_init_150 : decode b_N_init 150 = .ok (.bipush 10, 2) := by decide +kernel
theorem d_N_init_152 : decode b_N_init 152 = .ok (.newarray .int, 2) := by decide +kernel
theorem d_N_init_154 : decode b_N_init 154 = .ok (.putfield 43, 3) := by decide +kernel
theorem d_N_init_157 : decode b_N_init 157 = .ok (.aload_n 0, 1) := by decide +kernel
theorem d_N_init_158 : decode b_N_init 158 = .ok (.bipush 10, 2) := by decide +kernel
theorem d_N_init_160 : decode b_N_init 160 = .ok (.newarray .int, 2) := by decide +kernel
theorem d_N_init_162 : decode b_N_init 162 = .ok (.putfield 46, 3) := by decide +kernel
theorem d_N_init_165 : decode b_N_init 165 = .ok (.aload_n 0, 1) := by decide +kernel
theorem d_N_init_166 : decode b_N_init 166 = .ok (.bipush 10, 2) := by decide +kernel
theorem d_N_init_168 : decode b_N_init 168 = .ok (.newarray .int, 2) := by decide +kernel
theorem d_N_init_170 : decode b_N_init 170 = .ok (.putfield 49, 3) := by decide +kernel
theorem d_N_init_173 : decode b_N_init 173 = .ok (.aload_n 0, 1) := by decide +kernel
theorem d_N_init_174 : decode b_N_init 174 = .ok (.bipush 10, 2) := by decide +kernel
theorem d_N_init_176 : decode b_N_init 176 = .ok (.newarray .int, 2) := by decide +kernel
theorem d_N_init_178 : decode b_N_init 178 = .ok (.putfield 52, 3) := by decide +kernel
theorem d_N_init_181 : decode b_N_init 181 = .ok (.aload_n 0, 1) := by decide +kernel
theorem d_N_init_182 : decode b_N_init 182 = .ok (.bipush 10, 2) := by decide +kernel
theorem d_N_init_184 : decode b_N_init 184 = .ok (.newarray .int, 2) := by decide +kernel
theorem d_N_init_186 : decode b_N_init 186 = .ok (.putfield 55, 3) := by decide +kernel
theorem d_N_init_189 : decode b_N_init 189 = .ok (.aload_n 0, 1) := by decide +kernel
theorem d_N_init_190 : decode b_N_init 190 = .ok (.bipush 10, 2) := by decide +kernel
theorem d_N_init_192 : decode b_N_init 192 = .ok (.newarray .int, 2) := by decide +kernel
theorem d_N_init_194 : decode b_N_init 194 = .ok (.putfield 58, 3) := by decide +kernel
theorem d_N_init_197 : decode b_N_init 197 = .ok (.aload_n 0, 1) := by decide +kernel
theorem d_N_init_198 : decode b_N_init 198 = .ok (.bipush 10, 2) := by decide +kernel
theorem d_N_init_200 : decode b_N_init 200 = .ok (.newarray .int, 2) := by decide +kernel
theorem d_N_init_202 : decode b_N_init 202 = .ok (.putfield 61, 3) := by decide +kernel
theorem d_N_init_205 : decode b_N_init 205 = .ok (.aload_n 0, 1) := by decide +kernel
theorem d_N_init_206 : decode b_N_init 206 = .ok (.bipush 60, 2) := by decide +kernel
theorem d_N_init_208 : decode b_N_init 208 = .ok (.newarray .int, 2) := by decide +kernel
theorem d_N_init_210 : decode b_N_init 210 = .ok (.putfield 64, 3) := by decide +kernel
theorem d_N_init_213 : decode b_N_init 213 = .ok (.aload_n 0, 1) := by decide +kernel
theorem d_N_init_214 : decode b_N_init 214 = .ok (.bipush 20, 2) := by decide +kernel
theorem d_N_init_216 : decode b_N_init 216 = .ok (.newarray .int, 2) := by decide +kernel
theorem d_N_init_218 : decode b_N_init 218 = .ok (.putfield 67, 3) := by decide +kernel
theorem d_N_init_221 : decode b_N_init 221 = .ok (.aload_n 0, 1) := by decide +kernel
theorem d_N_init_222 : decode b_N_init 222 = .ok (.bipush 50, 2) := by decide +kernel
theorem d_N_init_224 : decode b_N_init 224 = .ok (.newarray .long, 2) := by decide +kernel
theorem d_N_init_226 : decode b_N_init 226 = .ok (.putfield 70, 3) := by decide +kernel
theorem d_N_init_229 : decode b_N_init 229 = .ok (.aload_n 0, 1) := by decide +kernel
theorem d_N_init_230 : decode b_N_init 230 = .ok (.bipush 50, 2) := by decide +kernel
theorem d_N_init_232 : decode b_N_init 232 = .ok (.newarray .int, 2) := by decide +kernel
theorem d_N_init_234 : decode b_N_init 234 = .ok (.putfield 73, 3) := by decide +kernel
theorem d_N_init_237 : decode b_N_init 237 = .ok (.return_, 1) := by decide +kernel
theorem d_N_thrown_0 : decode b_N_thrown 0 = .ok (.aload_n 0, 1) := by decide +kernel
theorem d_N_thrown_1 : decode b_N_thrown 1 = .ok (.getfield 76, 3) := by decide +kernel
theorem d_N_thrown_4 : decode b_N_thrown 4 = .ok (.ireturn, 1) := by decide +kernel
theorem d_N_fail_0 : decode b_N_fail 0 = .ok (.aload_n 0, 1) := by decide +kernel
theorem d_N_fail_1 : decode b_N_fail 1 = .ok (.iload_n 1, 1) := by decide +kernel
theorem d_N_fail_2 : decode b_N_fail 2 = .ok (.putfield 76, 3) := by decide +kernel
theorem d_N_fail_5 : decode b_N_fail 5 = .ok (.iconst 0, 1) := by decide +kernel
theorem d_N_fail_6 : decode b_N_fail 6 = .ok (.ireturn, 1) := by decide +kernel
theorem d_N_give_0 : decode b_N_give 0 = .ok (.aload_n 0, 1) := by decide +kernel
theorem d_N_give_1 : decode b_N_give 1 = .ok (.iconst 0, 1) := by decide +kernel
theorem d_N_give_2 : decode b_N_give 2 = .ok (.putfield 76, 3) := by decide +kernel
theorem d_N_give_5 : decode b_N_give 5 = .ok (.iload_n 1, 1) := by decide +kernel
theorem d_N_give_6 : decode b_N_give 6 = .ok (.ireturn, 1) := by decide +kernel
theorem d_N_shown_0 : decode b_N_shown 0 = .ok (.aload_n 0, 1) := by decide +kernel
theorem d_N_shown_1 : decode b_N_shown 1 = .ok (.iconst 0, 1) := by decide +kernel
theorem d_N_shown_2 : decode b_N_shown 2 = .ok (.putfield 76, 3) := by decide +kernel
theorem d_N_shown_5 : decode b_N_shown 5 = .ok (.lload_n 1, 1) := by decide +kernel
theorem d_N_shown_6 : decode b_N_shown 6 = .ok (.l2d, 1) := by decide +kernel
theorem d_N_shown_7 : decode b_N_shown 7 = .ok (.ldc2_w 80, 3) := by decide +kernel
theorem d_N_shown_10 : decode b_N_shown 10 = .ok (.ddiv, 1) := by decide +kernel
theorem d_N_shown_11 : decode b_N_shown 11 = .ok (.dreturn, 1) := by decide +kernel
theorem d_N_in_0 : decode b_N_in 0 = .ok (.iload_n 0, 1) := by decide +kernel
theorem d_N_in_1 : decode b_N_in 1 = .ok (.iload_n 1, 1) := by decide +kernel
theorem d_N_in_2 : decode b_N_in 2 = .ok (.if_icmp .lt 12, 3) := by decide +kernel
theorem d_N_in_5 : decode b_N_in 5 = .ok (.iload_n 0, 1) := by decide +kernel
theorem d_N_in_6 : decode b_N_in 6 = .ok (.iload_n 2, 1) := by decide +kernel
theorem d_N_in_7 : decode b_N_in 7 = .ok (.if_icmp .gt 7, 3) := by decide +kernel
theorem d_N_in_10 : decode b_N_in 10 = .ok (.iconst 1, 1) := by decide +kernel
theorem d_N_in_11 : decode b_N_in 11 = .ok (.goto 4, 3) := by decide +kernel
theorem d_N_in_14 : decode b_N_in 14 = .ok (.iconst 0, 1) := by decide +kernel
theorem d_N_in_15 : decode b_N_in 15 = .ok (.ireturn, 1) := by decide +kernel
theorem d_N_noDomain_0 : decode b_N_noDomain 0 = .ok (.aload_n 0, 1) := by decide +kernel
theorem d_N_noDomain_1 : decode b_N_noDomain 1 = .ok (.getfield 40, 3) := by decide +kernel
theorem d_N_noDomain_4 : decode b_N_noDomain 4 = .ok (.iload_n 1, 1) := by decide +kernel
theorem d_N_noDomain_5 : decode b_N_noDomain 5 = .ok (.iaload, 1) := by decide +kernel
theorem d_N_noDomain_6 : decode b_N_noDomain 6 = .ok (.ifCond .ge 7, 3) := by decide +kernel
theorem d_N_noDomain_9 : decode b_N_noDomain 9 = .ok (.iconst 1, 1) := by decide +kernel
theorem d_N_noDomain_10 : decode b_N_noDomain 10 = .ok (.goto 4, 3) := by decide +kernel
theorem d_N_noDomain_13 : decode b_N_noDomain 13 = .ok (.iconst 0, 1) := by decide +kernel
theorem d_N_noDomain_14 : decode b_N_noDomain 14 = .ok (.ireturn, 1) := by decide +kernel
theorem d_N_noThing_0 : decode b_N_noThing 0 = .ok (.iload_n 2, 1) := by decide +kernel
theorem d_N_noThing_1 : decode b_N_noThing 1 = .ok (.ifCond .ge 5, 3) := by decide +kernel
theorem d_N_noThing_4 : decode b_N_noThing 4 = .ok (.iconst 1, 1) := by decide +kernel
theorem d_N_noThing_5 : decode b_N_noThing 5 = .ok (.ireturn, 1) := by decide +kernel
theorem d_N_noThing_6 : decode b_N_noThing 6 = .ok (.iload_n 1, 1) := by decide +kernel
theorem d_N_noThing_7 : decode b_N_noThing 7 = .ok (.ifCond .ne 28, 3) := by decide +kernel
theorem d_N_noThing_10 : decode b_N_noThing 10 = .ok (.iload_n 2, 1) := by decide +kernel
theorem d_N_noThing_11 : decode b_N_noThing 11 = .ok (.aload_n 0, 1) := by decide +kernel
theorem d_N_noThing_12 : decode b_N_noThing 12 = .ok (.getfield 82, 3) := by decide +kernel
theorem d_N_noThing_15 : decode b_N_noThing 15 = .ok (.if_icmp .ge 12, 3) := by decide +kernel
theorem d_N_noThing_18 : decode b_N_noThing 18 = .ok (.aload_n 0, 1) := by decide +kernel
theorem d_N_noThing_19 : decode b_N_noThing 19 = .ok (.getfield 28, 3) := by decide +kernel
theorem d_N_noThing_22 : decode b_N_noThing 22 = .ok (.iload_n 2, 1) := by decide +kernel
theorem d_N_noThing_23 : decode b_N_noThing 23 = .ok (.iaload, 1) := by decide +kernel
theorem d_N_noThing_24 : decode b_N_noThing 24 = .ok (.ifCond .ge 7, 3) := by decide +kernel
theorem d_N_noThing_27 : decode b_N_noThing 27 = .ok (.iconst 1, 1) := by decide +kernel
theorem d_N_noThing_28 : decode b_N_noThing 28 = .ok (.goto 29, 3) := by decide +kernel
theorem d_N_noThing_31 : decode b_N_noThing 31 = .ok (.iconst 0, 1) := by decide +kernel
theorem d_N_noThing_32 : decode b_N_noThing 32 = .ok (.goto 25, 3) := by decide +kernel
theorem d_N_noThing_35 : decode b_N_noThing 35 = .ok (.iload_n 2, 1) := by decide +kernel
theorem d_N_noThing_36 : decode b_N_noThing 36 = .ok (.aload_n 0, 1) := by decide +kernel
theorem d_N_noThing_37 : decode b_N_noThing 37 = .ok (.getfield 85, 3) := by decide +kernel
theorem d_N_noThing_40 : decode b_N_noThing 40 = .ok (.if_icmp .ge 12, 3) := by decide +kernel
theorem d_N_noThing_43 : decode b_N_noThing 43 = .ok (.aload_n 0, 1) := by decide +kernel
theorem d_N_noThing_44 : decode b_N_noThing 44 = .ok (.getfield 31, 3) := by decide +kernel
theorem d_N_noThing_47 : decode b_N_noThing 47 = .ok (.iload_n 2, 1) := by decide +kernel
theorem d_N_noThing_48 : decode b_N_noThing 48 = .ok (.iaload, 1) := by decide +kernel
theorem d_N_noThing_49 : decode b_N_noThing 49 = .ok (.ifCond .ge 7, 3) := by decide +kernel
theorem d_N_noThing_52 : decode b_N_noThing 52 = .ok (.iconst 1, 1) := by decide +kernel
theorem d_N_noThing_53 : decode b_N_noThing 53 = .ok (.goto 4, 3) := by decide +kernel
theorem d_N_noThing_56 : decode b_N_noThing 56 = .ok (.iconst 0, 1) := by decide +kernel
theorem d_N_noThing_57 : decode b_N_noThing 57 = .ok (.ireturn, 1) := by decide +kernel
theorem d_N_canPay_0 : decode b_N_canPay 0 = .ok (.aload_n 0, 1) := by decide +kernel
theorem d_N_canPay_1 : decode b_N_canPay 1 = .ok (.getfield 15, 3) := by decide +kernel
theorem d_N_canPay_4 : decode b_N_canPay 4 = .ok (.iload_n 1, 1) := by decide +kernel
theorem d_N_canPay_5 : decode b_N_canPay 5 = .ok (.laload, 1) := by decide +kernel
theorem d_N_canPay_6 : decode b_N_canPay 6 = .ok (.aload_n 0, 1) := by decide +kernel
theorem d_N_canPay_7 : decode b_N_canPay 7 = .ok (.iload_n 1, 1) := by decide +kernel
theorem d_N_canPay_8 : decode b_N_canPay 8 = .ok (.iload_n 2, 1) := by decide +kernel
theorem d_N_canPay_9 : decode b_N_canPay 9 = .ok (.iload_n 3, 1) := by decide +kernel
theorem d_N_canPay_10 : decode b_N_canPay 10 = .ok (.invokevirtual 88, 3) := by decide +kernel
theorem d_N_canPay_13 : decode b_N_canPay 13 = .ok (.lcmp, 1) := by decide +kernel
theorem d_N_canPay_14 : decode b_N_canPay 14 = .ok (.ifCond .lt 7, 3) := by decide +kernel
theorem d_N_canPay_17 : decode b_N_canPay 17 = .ok (.iconst 1, 1) := by decide +kernel
theorem d_N_canPay_18 : decode b_N_canPay 18 = .ok (.goto 4, 3) := by decide +kernel
theorem d_N_canPay_21 : decode b_N_canPay 21 = .ok (.iconst 0, 1) := by decide +kernel
theorem d_N_canPay_22 : decode b_N_canPay 22 = .ok (.ireturn, 1) := by decide +kernel
theorem d_N_cost_0 : decode b_N_cost 0 = .ok (.aload_n 0, 1) := by decide +kernel
theorem d_N_cost_1 : decode b_N_cost 1 = .ok (.getfield 9, 3) := by decide +kernel
theorem d_N_cost_4 : decode b_N_cost 4 = .ok (.iload_n 2, 1) := by decide +kernel
theorem d_N_cost_5 : decode b_N_cost 5 = .ok (.laload, 1) := by decide +kernel
theorem d_N_cost_6 : decode b_N_cost 6 = .ok (.iload_n 3, 1) := by decide +kernel
theorem d_N_cost_7 : decode b_N_cost 7 = .ok (.i2l, 1) := by decide +kernel
theorem d_N_cost_8 : decode b_N_cost 8 = .ok (.lmul, 1) := by decide +kernel
theorem d_N_cost_9 : decode b_N_cost 9 = .ok (.lstore 4, 2) := by decide +kernel
theorem d_N_cost_11 : decode b_N_cost 11 = .ok (.aload_n 0, 1) := by decide +kernel
theorem d_N_cost_12 : decode b_N_cost 12 = .ok (.getfield 15, 3) := by decide +kernel
theorem d_N_cost_15 : decode b_N_cost 15 = .ok (.iload_n 1, 1) := by decide +kernel
theorem d_N_cost_16 : decode b_N_cost 16 = .ok (.laload, 1) := by decide +kernel
theorem d_N_cost_17 : decode b_N_cost 17 = .ok (.ldc2_w 92, 3) := by decide +kernel
theorem d_N_cost_20 : decode b_N_cost 20 = .ok (.lcmp, 1) := by decide +kernel
theorem d_N_cost_21 : decode b_N_cost 21 = .ok (.ifCond .lt 16, 3) := by decide +kernel
theorem d_N_cost_24 : decode b_N_cost 24 = .ok (.lload 4, 2) := by decide +kernel
theorem d_N_cost_26 : decode b_N_cost 26 = .ok (.ldc2_w 94, 3) := by decide +kernel
theorem d_N_cost_29 : decode b_N_cost 29 = .ok (.ldiv, 1) := by decide +kernel
theorem d_N_cost_30 : decode b_N_cost 30 = .ok (.ldc2_w 96, 3) := by decide +kernel
theorem d_N_cost_33 : decode b_N_cost 33 = .ok (.lmul, 1) := by decide +kernel
theorem d_N_cost_34 : decode b_N_cost 34 = .ok (.goto 5, 3) := by decide +kernel
theorem d_N_cost_37 : decode b_N_cost 37 = .ok (.lload 4, 2) := by decide +kernel
theorem d_N_cost_39 : decode b_N_cost 39 = .ok (.lreturn, 1) := by decide +kernel
theorem d_N_pay_0 : decode b_N_pay 0 = .ok (.aload_n 0, 1) := by decide +kernel
theorem d_N_pay_1 : decode b_N_pay 1 = .ok (.iload_n 1, 1) := by decide +kernel
theorem d_N_pay_2 : decode b_N_pay 2 = .ok (.iload_n 2, 1) := by decide +kernel
theorem d_N_pay_3 : decode b_N_pay 3 = .ok (.iload_n 3, 1) := by decide +kernel
theorem d_N_pay_4 : decode b_N_pay 4 = .ok (.invokevirtual 88, 3) := by decide +kernel
theorem d_N_pay_7 : decode b_N_pay 7 = .ok (.lstore 6, 2) := by decide +kernel
theorem d_N_pay_9 : decode b_N_pay 9 = .ok (.aload_n 0, 1) := by decide +kernel
theorem d_N_pay_10 : decode b_N_pay 10 = .ok (.getfield 15, 3) := by decide +kernel
theorem d_N_pay_13 : decode b_N_pay 13 = .ok (.iload_n 1, 1) := by decide +kernel
theorem d_N_pay_14 : decode b_N_pay 14 = .ok (.dup2, 1) := by decide +kernel
theorem d_N_pay_15 : decode b_N_pay 15 = .ok (.laload, 1) := by decide +kernel
theorem d_N_pay_16 : decode b_N_pay 16 = .ok (.lload 6, 2) := by decide +kernel
theorem d_N_pay_18 : decode b_N_pay 18 = .ok (.lsub, 1) := by decide +kernel
theorem d_N_pay_19 : decode b_N_pay 19 = .ok (.lastore, 1) := by decide +kernel
theorem d_N_pay_20 : decode b_N_pay 20 = .ok (.aload_n 0, 1) := by decide +kernel
theorem d_N_pay_21 : decode b_N_pay 21 = .ok (.getfield 18, 3) := by decide +kernel
theorem d_N_pay_24 : decode b_N_pay 24 = .ok (.iconst 4, 1) := by decide +kernel
theorem d_N_pay_25 : decode b_N_pay 25 = .ok (.iload_n 1, 1) := by decide +kernel
theorem d_N_pay_26 : decode b_N_pay 26 = .ok (.imul, 1) := by decide +kernel
theorem d_N_pay_27 : decode b_N_pay 27 = .ok (.iload_n 2, 1) := by decide +kernel
theorem d_N_pay_28 : decode b_N_pay 28 = .ok (.iadd, 1) := by decide +kernel
theorem d_N_pay_29 : decode b_N_pay 29 = .ok (.dup2, 1) := by decide +kernel
theorem d_N_pay_30 : decode b_N_pay 30 = .ok (.laload, 1) := by decide +kernel
theorem d_N_pay_31 : decode b_N_pay 31 = .ok (.lload 6, 2) := by decide +kernel
theorem d_N_pay_33 : decode b_N_pay 33 = .ok (.ladd, 1) := by decide +kernel
theorem d_N_pay_34 : decode b_N_pay 34 = .ok (.lastore, 1) := by decide +kernel
theorem d_N_pay_35 : decode b_N_pay 35 = .ok (.iload 5, 2) := by decide +kernel
theorem d_N_pay_37 : decode b_N_pay 37 = .ok (.ifCond .ge 4, 3) := by decide +kernel
theorem d_N_pay_40 : decode b_N_pay 40 = .ok (.return_, 1) := by decide +kernel
theorem d_N_pay_41 : decode b_N_pay 41 = .ok (.aload_n 0, 1) := by decide +kernel
theorem d_N_pay_42 : decode b_N_pay 42 = .ok (.getfield 70, 3) := by decide +kernel
theorem d_N_pay_45 : decode b_N_pay 45 = .ok (.iconst 5, 1) := by decide +kernel
theorem d_N_pay_46 : decode b_N_pay 46 = .ok (.iload 4, 2) := by decide +kernel
theorem d_N_pay_48 : decode b_N_pay 48 = .ok (.imul, 1) := by decide +kernel
theorem d_N_pay_49 : decode b_N_pay 49 = .ok (.iload 5, 2) := by decide +kernel
theorem d_N_pay_51 : decode b_N_pay 51 = .ok (.iadd, 1) := by decide +kernel
theorem d_N_pay_52 : decode b_N_pay 52 = .ok (.lload 6, 2) := by decide +kernel
theorem d_N_pay_54 : decode b_N_pay 54 = .ok (.lastore, 1) := by decide +kernel
theorem d_N_pay_55 : decode b_N_pay 55 = .ok (.aload_n 0, 1) := by decide +kernel
theorem d_N_pay_56 : decode b_N_pay 56 = .ok (.getfield 73, 3) := by decide +kernel
theorem d_N_pay_59 : decode b_N_pay 59 = .ok (.iconst 5, 1) := by decide +kernel
theorem d_N_pay_60 : decode b_N_pay 60 = .ok (.iload 4, 2) := by decide +kernel
theorem d_N_pay_62 : decode b_N_pay 62 = .ok (.imul, 1) := by decide +kernel
theorem d_N_pay_63 : decode b_N_pay 63 = .ok (.iload 5, 2) := by decide +kernel
theorem d_N_pay_65 : decode b_N_pay 65 = .ok (.iadd, 1) := by decide +kernel
theorem d_N_pay_66 : decode b_N_pay 66 = .ok (.aload_n 0, 1) := by decide +kernel
theorem d_N_pay_67 : decode b_N_pay 67 = .ok (.getfield 98, 3) := by decide +kernel
theorem d_N_pay_70 : decode b_N_pay 70 = .ok (.iload 5, 2) := by decide +kernel
theorem d_N_pay_72 : decode b_N_pay 72 = .ok (.iconst 4, 1) := by decide +kernel
theorem d_N_pay_73 : decode b_N_pay 73 = .ok (.if_icmp .ne 7, 3) := by decide +kernel
theorem d_N_pay_76 : decode b_N_pay 76 = .ok (.iconst 4, 1) := by decide +kernel
theorem d_N_pay_77 : decode b_N_pay 77 = .ok (.goto 4, 3) := by decide +kernel
theorem d_N_pay_80 : decode b_N_pay 80 = .ok (.iconst 3, 1) := by decide +kernel
theorem d_N_pay_81 : decode b_N_pay 81 = .ok (.iadd, 1) := by decide +kernel
theorem d_N_pay_82 : decode b_N_pay 82 = .ok (.iastore, 1) := by decide +kernel
theorem d_N_pay_83 : decode b_N_pay 83 = .ok (.return_, 1) := by decide +kernel
theorem d_N_graceOn_0 : decode b_N_graceOn 0 = .ok (.aload_n 0, 1) := by decide +kernel
theorem d_N_graceOn_1 : decode b_N_graceOn 1 = .ok (.getfield 73, 3) := by decide +kernel
theorem d_N_graceOn_4 : decode b_N_graceOn 4 = .ok (.iconst 5, 1) := by decide +kernel
theorem d_N_graceOn_5 : decode b_N_graceOn 5 = .ok (.iload_n 1, 1) := by decide +kernel
theorem d_N_graceOn_6 : decode b_N_graceOn 6 = .ok (.imul, 1) := by decide +kernel
theorem d_N_graceOn_7 : decode b_N_graceOn 7 = .ok (.iload_n 2, 1) := by decide +kernel
theorem d_N_graceOn_8 : decode b_N_graceOn 8 = .ok (.iadd, 1) := by decide +kernel
theorem d_N_graceOn_9 : decode b_N_graceOn 9 = .ok (.iaload, 1) := by decide +kernel
theorem d_N_graceOn_10 : decode b_N_graceOn 10 = .ok (.aload_n 0, 1) := by decide +kernel
theorem d_N_graceOn_11 : decode b_N_graceOn 11 = .ok (.getfield 98, 3) := by decide +kernel
theorem d_N_graceOn_14 : decode b_N_graceOn 14 = .ok (.if_icmp .lt 7, 3) := by decide +kernel
theorem d_N_graceOn_17 : decode b_N_graceOn 17 = .ok (.iconst 1, 1) := by decide +kernel
theorem d_N_graceOn_18 : decode b_N_graceOn 18 = .ok (.goto 4, 3) := by decide +kernel
theorem d_N_graceOn_21 : decode b_N_graceOn 21 = .ok (.iconst 0, 1) := by decide +kernel
theorem d_N_graceOn_22 : decode b_N_graceOn 22 = .ok (.ireturn, 1) := by decide +kernel
theorem d_N_noGrace_0 : decode b_N_noGrace 0 = .ok (.iconst 0, 1) := by decide +kernel
theorem d_N_noGrace_1 : decode b_N_noGrace 1 = .ok (.istore_n 2, 1) := by decide +kernel
theorem d_N_noGrace_2 : decode b_N_noGrace 2 = .ok (.iload_n 2, 1) := by decide +kernel
theorem d_N_noGrace_3 : decode b_N_noGrace 3 = .ok (.iconst 5, 1) := by decide +kernel
theorem d_N_noGrace_4 : decode b_N_noGrace 4 = .ok (.if_icmp .ge 20, 3) := by decide +kernel
theorem d_N_noGrace_7 : decode b_N_noGrace 7 = .ok (.aload_n 0, 1) := by decide +kernel
theorem d_N_noGrace_8 : decode b_N_noGrace 8 = .ok (.getfield 73, 3) := by decide +kernel
theorem d_N_noGrace_11 : decode b_N_noGrace 11 = .ok (.iconst 5, 1) := by decide +kernel
theorem d_N_noGrace_12 : decode b_N_noGrace 12 = .ok (.iload_n 1, 1) := by decide +kernel
theorem d_N_noGrace_13 : decode b_N_noGrace 13 = .ok (.imul, 1) := by decide +kernel
theorem d_N_noGrace_14 : decode b_N_noGrace 14 = .ok (.iload_n 2, 1) := by decide +kernel
theorem d_N_noGrace_15 : decode b_N_noGrace 15 = .ok (.iadd, 1) := by decide +kernel
theorem d_N_noGrace_16 : decode b_N_noGrace 16 = .ok (.iconst (-1), 1) := by decide +kernel
theorem d_N_noGrace_17 : decode b_N_noGrace 17 = .ok (.iastore, 1) := by decide +kernel
theorem d_N_noGrace_18 : decode b_N_noGrace 18 = .ok (.iinc 2 1, 3) := by decide +kernel
theorem d_N_noGrace_21 : decode b_N_noGrace 21 = .ok (.goto (-19), 3) := by decide +kernel
theorem d_N_noGrace_24 : decode b_N_noGrace 24 = .ok (.return_, 1) := by decide +kernel
theorem d_N_tell_0 : decode b_N_tell 0 = .ok (.aload_n 0, 1) := by decide +kernel
theorem d_N_tell_1 : decode b_N_tell 1 = .ok (.getfield 21, 3) := by decide +kernel
theorem d_N_tell_4 : decode b_N_tell 4 = .ok (.iload_n 1, 1) := by decide +kernel
theorem d_N_tell_5 : decode b_N_tell 5 = .ok (.iaload, 1) := by decide +kernel
theorem d_N_tell_6 : decode b_N_tell 6 = .ok (.bipush 12, 2) := by decide +kernel
theorem d_N_tell_8 : decode b_N_tell 8 = .ok (.if_icmp .ne 8, 3) := by decide +kernel
theorem d_N_tell_11 : decode b_N_tell 11 = .ok (.aload_n 0, 1) := by decide +kernel
theorem d_N_tell_12 : decode b_N_tell 12 = .ok (.iload_n 1, 1) := by decide +kernel
theorem d_N_tell_13 : decode b_N_tell 13 = .ok (.invokevirtual 101, 3) := by decide +kernel
theorem d_N_tell_16 : decode b_N_tell 16 = .ok (.aload_n 0, 1) := by decide +kernel
theorem d_N_tell_17 : decode b_N_tell 17 = .ok (.getfield 25, 3) := by decide +kernel
theorem d_N_tell_20 : decode b_N_tell 20 = .ok (.bipush 12, 2) := by decide +kernel
theorem d_N_tell_22 : decode b_N_tell 22 = .ok (.iload_n 1, 1) := by decide +kernel
theorem d_N_tell_23 : decode b_N_tell 23 = .ok (.imul, 1) := by decide +kernel
theorem d_N_tell_24 : decode b_N_tell 24 = .ok (.aload_n 0, 1) := by decide +kernel
theorem d_N_tell_25 : decode b_N_tell 25 = .ok (.getfield 21, 3) := by decide +kernel
theorem d_N_tell_28 : decode b_N_tell 28 = .ok (.iload_n 1, 1) := by decide +kernel
theorem d_N_tell_29 : decode b_N_tell 29 = .ok (.iaload, 1) := by decide +kernel
theorem d_N_tell_30 : decode b_N_tell 30 = .ok (.iadd, 1) := by decide +kernel
theorem d_N_tell_31 : decode b_N_tell 31 = .ok (.bipush 10, 2) := by decide +kernel
theorem d_N_tell_33 : decode b_N_tell 33 = .ok (.iload_n 2, 1) := by decide +kernel
theorem d_N_tell_34 : decode b_N_tell 34 = .ok (.imul, 1) := by decide +kernel
theorem d_N_tell_35 : decode b_N_tell 35 = .ok (.iload_n 3, 1) := by decide +kernel
theorem d_N_tell_36 : decode b_N_tell 36 = .ok (.iadd, 1) := by decide +kernel
theorem d_N_tell_37 : decode b_N_tell 37 = .ok (.iastore, 1) := by decide +kernel
theorem d_N_tell_38 : decode b_N_tell 38 = .ok (.aload_n 0, 1) := by decide +kernel
theorem d_N_tell_39 : decode b_N_tell 39 = .ok (.getfield 21, 3) := by decide +kernel
theorem d_N_tell_42 : decode b_N_tell 42 = .ok (.iload_n 1, 1) := by decide +kernel
theorem d_N_tell_43 : decode b_N_tell 43 = .ok (.dup2, 1) := by decide +kernel
theorem d_N_tell_44 : decode b_N_tell 44 = .ok (.iaload, 1) := by decide +kernel
theorem d_N_tell_45 : decode b_N_tell 45 = .ok (.iconst 1, 1) := by decide +kernel
theorem d_N_tell_46 : decode b_N_tell 46 = .ok (.iadd, 1) := by decide +kernel
theorem d_N_tell_47 : decode b_N_tell 47 = .ok (.iastore, 1) := by decide +kernel
theorem d_N_tell_48 : decode b_N_tell 48 = .ok (.return_, 1) := by decide +kernel
theorem d_N_drop_0 : decode b_N_drop 0 = .ok (.aload_n 0, 1) := by decide +kernel
theorem d_N_drop_1 : decode b_N_drop 1 = .ok (.getfield 21, 3) := by decide +kernel
theorem d_N_drop_4 : decode b_N_drop 4 = .ok (.iload_n 1, 1) := by decide +kernel
theorem d_N_drop_5 : decode b_N_drop 5 = .ok (.dup2, 1) := by decide +kernel
theorem d_N_drop_6 : decode b_N_drop 6 = .ok (.iaload, 1) := by decide +kernel
theorem d_N_drop_7 : decode b_N_drop 7 = .ok (.iconst 1, 1) := by decide +kernel
theorem d_N_drop_8 : decode b_N_drop 8 = .ok (.isub, 1) := by decide +kernel
theorem d_N_drop_9 : decode b_N_drop 9 = .ok (.iastore, 1) := by decide +kernel
theorem d_N_drop_10 : decode b_N_drop 10 = .ok (.iconst 0, 1) := by decide +kernel
theorem d_N_drop_11 : decode b_N_drop 11 = .ok (.istore_n 2, 1) := by decide +kernel
theorem d_N_drop_12 : decode b_N_drop 12 = .ok (.iload_n 2, 1) := by decide +kernel
theorem d_N_drop_13 : decode b_N_drop 13 = .ok (.aload_n 0, 1) := by decide +kernel
theorem d_N_drop_14 : decode b_N_drop 14 = .ok (.getfield 21, 3) := by decide +kernel
theorem d_N_drop_17 : decode b_N_drop 17 = .ok (.iload_n 1, 1) := by decide +kernel
theorem d_N_drop_18 : decode b_N_drop 18 = .ok (.iaload, 1) := by decide +kernel
theorem d_N_drop_19 : decode b_N_drop 19 = .ok (.if_icmp .ge 33, 3) := by decide +kernel
theorem d_N_drop_22 : decode b_N_drop 22 = .ok (.aload_n 0, 1) := by decide +kernel
theorem d_N_drop_23 : decode b_N_drop 23 = .ok (.getfield 25, 3) := by decide +kernel
theorem d_N_drop_26 : decode b_N_drop 26 = .ok (.bipush 12, 2) := by decide +kernel
theorem d_N_drop_28 : decode b_N_drop 28 = .ok (.iload_n 1, 1) := by decide +kernel
theorem d_N_drop_29 : decode b_N_drop 29 = .ok (.imul, 1) := by decide +kernel
theorem d_N_drop_30 : decode b_N_drop 30 = .ok (.iload_n 2, 1) := by decide +kernel
theorem d_N_drop_31 : decode b_N_drop 31 = .ok (.iadd, 1) := by decide +kernel
theorem d_N_drop_32 : decode b_N_drop 32 = .ok (.aload_n 0, 1) := by decide +kernel
theorem d_N_drop_33 : decode b_N_drop 33 = .ok (.getfield 25, 3) := by decide +kernel
theorem d_N_drop_36 : decode b_N_drop 36 = .ok (.bipush 12, 2) := by decide +kernel
theorem d_N_drop_38 : decode b_N_drop 38 = .ok (.iload_n 1, 1) := by decide +kernel
theorem d_N_drop_39 : decode b_N_drop 39 = .ok (.imul, 1) := by decide +kernel
theorem d_N_drop_40 : decode b_N_drop 40 = .ok (.iload_n 2, 1) := by decide +kernel
theorem d_N_drop_41 : decode b_N_drop 41 = .ok (.iadd, 1) := by decide +kernel
theorem d_N_drop_42 : decode b_N_drop 42 = .ok (.iconst 1, 1) := by decide +kernel
theorem d_N_drop_43 : decode b_N_drop 43 = .ok (.iadd, 1) := by decide +kernel
theorem d_N_drop_44 : decode b_N_drop 44 = .ok (.iaload, 1) := by decide +kernel
theorem d_N_drop_45 : decode b_N_drop 45 = .ok (.iastore, 1) := by decide +kernel
theorem d_N_drop_46 : decode b_N_drop 46 = .ok (.iinc 2 1, 3) := by decide +kernel
theorem d_N_drop_49 : decode b_N_drop 49 = .ok (.goto (-37), 3) := by decide +kernel
theorem d_N_drop_52 : decode b_N_drop 52 = .ok (.return_, 1) := by decide +kernel
theorem d_N_placeOf_0 : decode b_N_placeOf 0 = .ok (.iconst 0, 1) := by decide +kernel
theorem d_N_placeOf_1 : decode b_N_placeOf 1 = .ok (.istore 4, 2) := by decide +kernel
theorem d_N_placeOf_3 : decode b_N_placeOf 3 = .ok (.iload 4, 2) := by decide +kernel
theorem d_N_placeOf_5 : decode b_N_placeOf 5 = .ok (.aload_n 0, 1) := by decide +kernel
theorem d_N_placeOf_6 : decode b_N_placeOf 6 = .ok (.getfield 67, 3) := by decide +kernel
theorem d_N_placeOf_9 : decode b_N_placeOf 9 = .ok (.iconst 2, 1) := by decide +kernel
theorem d_N_placeOf_10 : decode b_N_placeOf 10 = .ok (.iload_n 1, 1) := by decide +kernel
theorem d_N_placeOf_11 : decode b_N_placeOf 11 = .ok (.imul, 1) := by decide +kernel
theorem d_N_placeOf_12 : decode b_N_placeOf 12 = .ok (.iload_n 2, 1) := by decide +kernel
theorem d_N_placeOf_13 : decode b_N_placeOf 13 = .ok (.iadd, 1) := by decide +kernel
theorem d_N_placeOf_14 : decode b_N_placeOf 14 = .ok (.iaload, 1) := by decide +kernel
theorem d_N_placeOf_15 : decode b_N_placeOf 15 = .ok (.if_icmp .ge 32, 3) := by decide +kernel
theorem d_N_placeOf_18 : decode b_N_placeOf 18 = .ok (.aload_n 0, 1) := by decide +kernel
theorem d_N_placeOf_19 : decode b_N_placeOf 19 = .ok (.getfield 64, 3) := by decide +kernel
theorem d_N_placeOf_22 : decode b_N_placeOf 22 = .ok (.bipush 6, 2) := by decide +kernel
theorem d_N_placeOf_24 : decode b_N_placeOf 24 = .ok (.iload_n 1, 1) := by decide +kernel
theorem d_N_placeOf_25 : decode b_N_placeOf 25 = .ok (.imul, 1) := by decide +kernel
theorem d_N_placeOf_26 : decode b_N_placeOf 26 = .ok (.iconst 3, 1) := by decide +kernel
theorem d_N_placeOf_27 : decode b_N_placeOf 27 = .ok (.iload_n 2, 1) := by decide +kernel
theorem d_N_placeOf_28 : decode b_N_placeOf 28 = .ok (.imul, 1) := by decide +kernel
theorem d_N_placeOf_29 : decode b_N_placeOf 29 = .ok (.iadd, 1) := by decide +kernel
theorem d_N_placeOf_30 : decode b_N_placeOf 30 = .ok (.iload 4, 2) := by decide +kernel
theorem d_N_placeOf_32 : decode b_N_placeOf 32 = .ok (.iadd, 1) := by decide +kernel
theorem d_N_placeOf_33 : decode b_N_placeOf 33 = .ok (.iaload, 1) := by decide +kernel
theorem d_N_placeOf_34 : decode b_N_placeOf 34 = .ok (.iload_n 3, 1) := by decide +kernel
theorem d_N_placeOf_35 : decode b_N_placeOf 35 = .ok (.if_icmp .ne 6, 3) := by decide +kernel
theorem d_N_placeOf_38 : decode b_N_placeOf 38 = .ok (.iload 4, 2) := by decide +kernel
theorem d_N_placeOf_40 : decode b_N_placeOf 40 = .ok (.ireturn, 1) := by decide +kernel
theorem d_N_placeOf_41 : decode b_N_placeOf 41 = .ok (.iinc 4 1, 3) := by decide +kernel
theorem d_N_placeOf_44 : decode b_N_placeOf 44 = .ok (.goto (-41), 3) := by decide +kernel
theorem d_N_placeOf_47 : decode b_N_placeOf 47 = .ok (.iconst (-1), 1) := by decide +kernel
theorem d_N_placeOf_48 : decode b_N_placeOf 48 = .ok (.ireturn, 1) := by decide +kernel
theorem d_N_users_0 : decode b_N_users 0 = .ok (.iconst 0, 1) := by decide +kernel
theorem d_N_users_1 : decode b_N_users 1 = .ok (.istore_n 3, 1) := by decide +kernel
theorem d_N_users_2 : decode b_N_users 2 = .ok (.iconst 0, 1) := by decide +kernel
theorem d_N_users_3 : decode b_N_users 3 = .ok (.istore 4, 2) := by decide +kernel
theorem d_N_users_5 : decode b_N_users 5 = .ok (.iload 4, 2) := by decide +kernel
theorem d_N_users_7 : decode b_N_users 7 = .ok (.bipush 10, 2) := by decide +kernel
theorem d_N_users_9 : decode b_N_users 9 = .ok (.if_icmp .ge 33, 3) := by decide +kernel
theorem d_N_users_12 : decode b_N_users 12 = .ok (.aload_n 0, 1) := by decide +kernel
theorem d_N_users_13 : decode b_N_users 13 = .ok (.getfield 40, 3) := by decide +kernel
theorem d_N_users_16 : decode b_N_users 16 = .ok (.iload 4, 2) := by decide +kernel
theorem d_N_users_18 : decode b_N_users 18 = .ok (.iaload, 1) := by decide +kernel
theorem d_N_users_19 : decode b_N_users 19 = .ok (.ifCond .lt 17, 3) := by decide +kernel
theorem d_N_users_22 : decode b_N_users 22 = .ok (.aload_n 0, 1) := by decide +kernel
theorem d_N_users_23 : decode b_N_users 23 = .ok (.iload 4, 2) := by decide +kernel
theorem d_N_users_25 : decode b_N_users 25 = .ok (.iload_n 1, 1) := by decide +kernel
theorem d_N_users_26 : decode b_N_users 26 = .ok (.iload_n 2, 1) := by decide +kernel
theorem d_N_users_27 : decode b_N_users 27 = .ok (.invokevirtual 105, 3) := by decide +kernel
theorem d_N_users_30 : decode b_N_users 30 = .ok (.ifCond .lt 6, 3) := by decide +kernel
theorem d_N_users_33 : decode b_N_users 33 = .ok (.iinc 3 1, 3) := by decide +kernel
theorem d_N_users_36 : decode b_N_users 36 = .ok (.iinc 4 1, 3) := by decide +kernel
theorem d_N_users_39 : decode b_N_users 39 = .ok (.goto (-34), 3) := by decide +kernel
theorem d_N_users_42 : decode b_N_users 42 = .ok (.iload_n 3, 1) := by decide +kernel
theorem d_N_users_43 : decode b_N_users 43 = .ok (.ireturn, 1) := by decide +kernel
theorem d_N_takeOff_0 : decode b_N_takeOff 0 = .ok (.aload_n 0, 1) := by decide +kernel
theorem d_N_takeOff_1 : decode b_N_takeOff 1 = .ok (.getfield 67, 3) := by decide +kernel
theorem d_N_takeOff_4 : decode b_N_takeOff 4 = .ok (.iconst 2, 1) := by decide +kernel
theorem d_N_takeOff_5 : decode b_N_takeOff 5 = .ok (.iload_n 1, 1) := by decide +kernel
theorem d_N_takeOff_6 : decode b_N_takeOff 6 = .ok (.imul, 1) := by decide +kernel
theorem d_N_takeOff_7 : decode b_N_takeOff 7 = .ok (.iload_n 2, 1) := by decide +kernel
theorem d_N_takeOff_8 : decode b_N_takeOff 8 = .ok (.iadd, 1) := by decide +kernel
theorem d_N_takeOff_9 : decode b_N_takeOff 9 = .ok (.dup2, 1) := by decide +kernel
theorem d_N_takeOff_10 : decode b_N_takeOff 10 = .ok (.iaload, 1) := by decide +kernel
theorem d_N_takeOff_11 : decode b_N_takeOff 11 = .ok (.iconst 1, 1) := by decide +kernel
theorem d_N_takeOff_12 : decode b_N_takeOff 12 = .ok (.isub, 1) := by decide +kernel
theorem d_N_takeOff_13 : decode b_N_takeOff 13 = .ok (.iastore, 1) := by decide +kernel
theorem d_N_takeOff_14 : decode b_N_takeOff 14 = .ok (.bipush 6, 2) := by decide +kernel
theorem d_N_takeOff_16 : decode b_N_takeOff 16 = .ok (.iload_n 1, 1) := by decide +kernel
theorem d_N_takeOff_17 : decode b_N_takeOff 17 = .ok (.imul, 1) := by decide +kernel
theorem d_N_takeOff_18 : decode b_N_takeOff 18 = .ok (.iconst 3, 1) := by decide +kernel
theorem d_N_takeOff_19 : decode b_N_takeOff 19 = .ok (.iload_n 2, 1) := by decide +kernel
theorem d_N_takeOff_20 : decode b_N_takeOff 20 = .ok (.imul, 1) := by decide +kernel
theorem d_N_takeOff_21 : decode b_N_takeOff 21 = .ok (.iadd, 1) := by decide +kernel
theorem d_N_takeOff_22 : decode b_N_takeOff 22 = .ok (.istore 4, 2) := by decide +kernel
theorem d_N_takeOff_24 : decode b_N_takeOff 24 = .ok (.iload_n 3, 1) := by decide +kernel
theorem d_N_takeOff_25 : decode b_N_takeOff 25 = .ok (.istore 5, 2) := by decide +kernel
theorem d_N_takeOff_27 : decode b_N_takeOff 27 = .ok (.iload 5, 2) := by decide +kernel
theorem d_N_takeOff_29 : decode b_N_takeOff 29 = .ok (.aload_n 0, 1) := by decide +kernel
theorem d_N_takeOff_30 : decode b_N_takeOff 30 = .ok (.getfield 67, 3) := by decide +kernel
theorem d_N_takeOff_33 : decode b_N_takeOff 33 = .ok (.iconst 2, 1) := by decide +kernel
theorem d_N_takeOff_34 : decode b_N_takeOff 34 = .ok (.iload_n 1, 1) := by decide +kernel
theorem d_N_takeOff_35 : decode b_N_takeOff 35 = .ok (.imul, 1) := by decide +kernel
theorem d_N_takeOff_36 : decode b_N_takeOff 36 = .ok (.iload_n 2, 1) := by decide +kernel
theorem d_N_takeOff_37 : decode b_N_takeOff 37 = .ok (.iadd, 1) := by decide +kernel
theorem d_N_takeOff_38 : decode b_N_takeOff 38 = .ok (.iaload, 1) := by decide +kernel
theorem d_N_takeOff_39 : decode b_N_takeOff 39 = .ok (.if_icmp .ge 31, 3) := by decide +kernel
theorem d_N_takeOff_42 : decode b_N_takeOff 42 = .ok (.aload_n 0, 1) := by decide +kernel
theorem d_N_takeOff_43 : decode b_N_takeOff 43 = .ok (.getfield 64, 3) := by decide +kernel
theorem d_N_takeOff_46 : decode b_N_takeOff 46 = .ok (.iload 4, 2) := by decide +kernel
theorem d_N_takeOff_48 : decode b_N_takeOff 48 = .ok (.iload 5, 2) := by decide +kernel
theorem d_N_takeOff_50 : decode b_N_takeOff 50 = .ok (.iadd, 1) := by decide +kernel
theorem d_N_takeOff_51 : decode b_N_takeOff 51 = .ok (.aload_n 0, 1) := by decide +kernel
theorem d_N_takeOff_52 : decode b_N_takeOff 52 = .ok (.getfield 64, 3) := by decide +kernel
theorem d_N_takeOff_55 : decode b_N_takeOff 55 = .ok (.iload 4, 2) := by decide +kernel
theorem d_N_takeOff_57 : decode b_N_takeOff 57 = .ok (.iload 5, 2) := by decide +kernel
theorem d_N_takeOff_59 : decode b_N_takeOff 59 = .ok (.iadd, 1) := by decide +kernel
theorem d_N_takeOff_60 : decode b_N_takeOff 60 = .ok (.iconst 1, 1) := by decide +kernel
theorem d_N_takeOff_61 : decode b_N_takeOff 61 = .ok (.iadd, 1) := by decide +kernel
theorem d_N_takeOff_62 : decode b_N_takeOff 62 = .ok (.iaload, 1) := by decide +kernel
theorem d_N_takeOff_63 : decode b_N_takeOff 63 = .ok (.iastore, 1) := by decide +kernel
theorem d_N_takeOff_64 : decode b_N_takeOff 64 = .ok (.iinc 5 1, 3) := by decide +kernel
theorem d_N_takeOff_67 : decode b_N_takeOff 67 = .ok (.goto (-40), 3) := by decide +kernel
theorem d_N_takeOff_70 : decode b_N_takeOff 70 = .ok (.return_, 1) := by decide +kernel
theorem d_N_removeHost_0 : decode b_N_removeHost 0 = .ok (.aload_n 0, 1) := by decide +kernel
theorem d_N_removeHost_1 : decode b_N_removeHost 1 = .ok (.getfield 31, 3) := by decide +kernel
theorem d_N_removeHost_4 : decode b_N_removeHost 4 = .ok (.iload_n 1, 1) := by decide +kernel
theorem d_N_removeHost_5 : decode b_N_removeHost 5 = .ok (.iconst (-1), 1) := by decide +kernel
theorem d_N_removeHost_6 : decode b_N_removeHost 6 = .ok (.iastore, 1) := by decide +kernel
theorem d_N_removeHost_7 : decode b_N_removeHost 7 = .ok (.iconst 0, 1) := by decide +kernel
theorem d_N_removeHost_8 : decode b_N_removeHost 8 = .ok (.istore_n 2, 1) := by decide +kernel
theorem d_N_removeHost_9 : decode b_N_removeHost 9 = .ok (.iload_n 2, 1) := by decide +kernel
theorem d_N_removeHost_10 : decode b_N_removeHost 10 = .ok (.bipush 10, 2) := by decide +kernel
theorem d_N_removeHost_12 : decode b_N_removeHost 12 = .ok (.if_icmp .ge 37, 3) := by decide +kernel
theorem d_N_removeHost_15 : decode b_N_removeHost 15 = .ok (.aload_n 0, 1) := by decide +kernel
theorem d_N_removeHost_16 : decode b_N_removeHost 16 = .ok (.iload_n 2, 1) := by decide +kernel
theorem d_N_removeHost_17 : decode b_N_removeHost 17 = .ok (.iconst 1, 1) := by decide +kernel
theorem d_N_removeHost_18 : decode b_N_removeHost 18 = .ok (.iload_n 1, 1) := by decide +kernel
theorem d_N_removeHost_19 : decode b_N_removeHost 19 = .ok (.invokevirtual 105, 3) := by decide +kernel
theorem d_N_removeHost_22 : decode b_N_removeHost 22 = .ok (.istore_n 3, 1) := by decide +kernel
theorem d_N_removeHost_23 : decode b_N_removeHost 23 = .ok (.aload_n 0, 1) := by decide +kernel
theorem d_N_removeHost_24 : decode b_N_removeHost 24 = .ok (.getfield 40, 3) := by decide +kernel
theorem d_N_removeHost_27 : decode b_N_removeHost 27 = .ok (.iload_n 2, 1) := by decide +kernel
theorem d_N_removeHost_28 : decode b_N_removeHost 28 = .ok (.iaload, 1) := by decide +kernel
theorem d_N_removeHost_29 : decode b_N_removeHost 29 = .ok (.ifCond .lt 14, 3) := by decide +kernel
theorem d_N_removeHost_32 : decode b_N_removeHost 32 = .ok (.iload_n 3, 1) := by decide +kernel
theorem d_N_removeHost_33 : decode b_N_removeHost 33 = .ok (.ifCond .lt 10, 3) := by decide +kernel
theorem d_N_removeHost_36 : decode b_N_removeHost 36 = .ok (.aload_n 0, 1) := by decide +kernel
theorem d_N_removeHost_37 : decode b_N_removeHost 37 = .ok (.iload_n 2, 1) := by decide +kernel
theorem d_N_removeHost_38 : decode b_N_removeHost 38 = .ok (.iconst 1, 1) := by decide +kernel
theorem d_N_removeHost_39 : decode b_N_removeHost 39 = .ok (.iload_n 3, 1) := by decide +kernel
theorem d_N_removeHost_40 : decode b_N_removeHost 40 = .ok (.invokevirtual 109, 3) := by decide +kernel
theorem d_N_removeHost_43 : decode b_N_removeHost 43 = .ok (.iinc 2 1, 3) := by decide +kernel
theorem d_N_removeHost_46 : decode b_N_removeHost 46 = .ok (.goto (-37), 3) := by decide +kernel
theorem d_N_removeHost_49 : decode b_N_removeHost 49 = .ok (.return_, 1) := by decide +kernel
theorem d_N_removeDomain_0 : decode b_N_removeDomain 0 = .ok (.iconst 0, 1) := by decide +kernel
theorem d_N_removeDomain_1 : decode b_N_removeDomain 1 = .ok (.istore_n 2, 1) := by decide +kernel
theorem d_N_removeDomain_2 : decode b_N_removeDomain 2 = .ok (.iload_n 2, 1) := by decide +kernel
theorem d_N_removeDomain_3 : decode b_N_removeDomain 3 = .ok (.aload_n 0, 1) := by decide +kernel
theorem d_N_removeDomain_4 : decode b_N_removeDomain 4 = .ok (.getfield 85, 3) := by decide +kernel
theorem d_N_removeDomain_7 : decode b_N_removeDomain 7 = .ok (.if_icmp .ge 33, 3) := by decide +kernel
theorem d_N_removeDomain_10 : decode b_N_removeDomain 10 = .ok (.aload_n 0, 1) := by decide +kernel
theorem d_N_removeDomain_11 : decode b_N_removeDomain 11 = .ok (.getfield 31, 3) := by decide +kernel
theorem d_N_removeDomain_14 : decode b_N_removeDomain 14 = .ok (.iload_n 2, 1) := by decide +kernel
theorem d_N_removeDomain_15 : decode b_N_removeDomain 15 = .ok (.iaload, 1) := by decide +kernel
theorem d_N_removeDomain_16 : decode b_N_removeDomain 16 = .ok (.ifCond .lt 18, 3) := by decide +kernel
theorem d_N_removeDomain_19 : decode b_N_removeDomain 19 = .ok (.aload_n 0, 1) := by decide +kernel
theorem d_N_removeDomain_20 : decode b_N_removeDomain 20 = .ok (.getfield 37, 3) := by decide +kernel
theorem d_N_removeDomain_23 : decode b_N_removeDomain 23 = .ok (.iload_n 2, 1) := by decide +kernel
theorem d_N_removeDomain_24 : decode b_N_removeDomain 24 = .ok (.iaload, 1) := by decide +kernel
theorem d_N_removeDomain_25 : decode b_N_removeDomain 25 = .ok (.iload_n 1, 1) := by decide +kernel
theorem d_N_removeDomain_26 : decode b_N_removeDomain 26 = .ok (.if_icmp .ne 8, 3) := by decide +kernel
theorem d_N_removeDomain_29 : decode b_N_removeDomain 29 = .ok (.aload_n 0, 1) := by decide +kernel
theorem d_N_removeDomain_30 : decode b_N_removeDomain 30 = .ok (.iload_n 2, 1) := by decide +kernel
theorem d_N_removeDomain_31 : decode b_N_removeDomain 31 = .ok (.invokevirtual 113, 3) := by decide +kernel
theorem d_N_removeDomain_34 : decode b_N_removeDomain 34 = .ok (.iinc 2 1, 3) := by decide +kernel
theorem d_N_removeDomain_37 : decode b_N_removeDomain 37 = .ok (.goto (-35), 3) := by decide +kernel
theorem d_N_removeDomain_40 : decode b_N_removeDomain 40 = .ok (.aload_n 0, 1) := by decide +kernel
theorem d_N_removeDomain_41 : decode b_N_removeDomain 41 = .ok (.getfield 40, 3) := by decide +kernel
theorem d_N_removeDomain_44 : decode b_N_removeDomain 44 = .ok (.iload_n 1, 1) := by decide +kernel
theorem d_N_removeDomain_45 : decode b_N_removeDomain 45 = .ok (.iconst (-1), 1) := by decide +kernel
theorem d_N_removeDomain_46 : decode b_N_removeDomain 46 = .ok (.iastore, 1) := by decide +kernel
theorem d_N_removeDomain_47 : decode b_N_removeDomain 47 = .ok (.return_, 1) := by decide +kernel
theorem d_N_price_0 : decode b_N_price 0 = .ok (.iload_n 1, 1) := by decide +kernel
theorem d_N_price_1 : decode b_N_price 1 = .ok (.iconst 0, 1) := by decide +kernel
theorem d_N_price_2 : decode b_N_price 2 = .ok (.iconst 3, 1) := by decide +kernel
theorem d_N_price_3 : decode b_N_price 3 = .ok (.invokestatic 116, 3) := by decide +kernel
theorem d_N_price_6 : decode b_N_price 6 = .ok (.ifCond .eq 17, 3) := by decide +kernel
theorem d_N_price_9 : decode b_N_price 9 = .ok (.dload_n 2, 1) := by decide +kernel
theorem d_N_price_10 : decode b_N_price 10 = .ok (.dconst 0, 1) := by decide +kernel
theorem d_N_price_11 : decode b_N_price 11 = .ok (.dcmp .l, 1) := by decide +kernel
theorem d_N_price_12 : decode b_N_price 12 = .ok (.ifCond .lt 11, 3) := by decide +kernel
theorem d_N_price_15 : decode b_N_price 15 = .ok (.dload_n 2, 1) := by decide +kernel
theorem d_N_price_16 : decode b_N_price 16 = .ok (.ldc2_w 120, 3) := by decide +kernel
theorem d_N_price_19 : decode b_N_price 19 = .ok (.dcmp .g, 1) := by decide +kernel
theorem d_N_price_20 : decode b_N_price 20 = .ok (.ifCond .le 9, 3) := by decide +kernel
theorem d_N_price_23 : decode b_N_price 23 = .ok (.aload_n 0, 1) := by decide +kernel
theorem d_N_price_24 : decode b_N_price 24 = .ok (.iconst 1, 1) := by decide +kernel
theorem d_N_price_25 : decode b_N_price 25 = .ok (.invokevirtual 122, 3) := by decide +kernel
theorem d_N_price_28 : decode b_N_price 28 = .ok (.ireturn, 1) := by decide +kernel
theorem d_N_price_29 : decode b_N_price 29 = .ok (.aload_n 0, 1) := by decide +kernel
theorem d_N_price_30 : decode b_N_price 30 = .ok (.getfield 9, 3) := by decide +kernel
theorem d_N_price_33 : decode b_N_price 33 = .ok (.iload_n 1, 1) := by decide +kernel
theorem d_N_price_34 : decode b_N_price 34 = .ok (.dload_n 2, 1) := by decide +kernel
theorem d_N_price_35 : decode b_N_price 35 = .ok (.ldc2_w 80, 3) := by decide +kernel
theorem d_N_price_38 : decode b_N_price 38 = .ok (.dmul, 1) := by decide +kernel
theorem d_N_price_39 : decode b_N_price 39 = .ok (.d2l, 1) := by decide +kernel
theorem d_N_price_40 : decode b_N_price 40 = .ok (.lastore, 1) := by decide +kernel
theorem d_N_price_41 : decode b_N_price 41 = .ok (.aload_n 0, 1) := by decide +kernel
theorem d_N_price_42 : decode b_N_price 42 = .ok (.iconst 0, 1) := by decide +kernel
theorem d_N_price_43 : decode b_N_price 43 = .ok (.invokevirtual 126, 3) := by decide +kernel
theorem d_N_price_46 : decode b_N_price 46 = .ok (.ireturn, 1) := by decide +kernel
theorem d_N_deposit_0 : decode b_N_deposit 0 = .ok (.iload_n 1, 1) := by decide +kernel
theorem d_N_deposit_1 : decode b_N_deposit 1 = .ok (.iconst 0, 1) := by decide +kernel
theorem d_N_deposit_2 : decode b_N_deposit 2 = .ok (.iconst 3, 1) := by decide +kernel
theorem d_N_deposit_3 : decode b_N_deposit 3 = .ok (.invokestatic 116, 3) := by decide +kernel
theorem d_N_deposit_6 : decode b_N_deposit 6 = .ok (.ifCond .eq 17, 3) := by decide +kernel
theorem d_N_deposit_9 : decode b_N_deposit 9 = .ok (.dload_n 2, 1) := by decide +kernel
theorem d_N_deposit_10 : decode b_N_deposit 10 = .ok (.dconst 0, 1) := by decide +kernel
theorem d_N_deposit_11 : decode b_N_deposit 11 = .ok (.dcmp .l, 1) := by decide +kernel
theorem d_N_deposit_12 : decode b_N_deposit 12 = .ok (.ifCond .le 11, 3) := by decide +kernel
theorem d_N_deposit_15 : decode b_N_deposit 15 = .ok (.dload_n 2, 1) := by decide +kernel
theorem d_N_deposit_16 : decode b_N_deposit 16 = .ok (.ldc2_w 120, 3) := by decide +kernel
theorem d_N_deposit_19 : decode b_N_deposit 19 = .ok (.dcmp .g, 1) := by decide +kernel
theorem d_N_deposit_20 : decode b_N_deposit 20 = .ok (.ifCond .le 10, 3) := by decide +kernel
theorem d_N_deposit_23 : decode b_N_deposit 23 = .ok (.aload_n 0, 1) := by decide +kernel
theorem d_N_deposit_24 : decode b_N_deposit 24 = .ok (.iconst 1, 1) := by decide +kernel
theorem d_N_deposit_25 : decode b_N_deposit 25 = .ok (.invokevirtual 122, 3) := by decide +kernel
theorem d_N_deposit_28 : decode b_N_deposit 28 = .ok (.i2d, 1) := by decide +kernel
theorem d_N_deposit_29 : decode b_N_deposit 29 = .ok (.dreturn, 1) := by decide +kernel
theorem d_N_deposit_30 : decode b_N_deposit 30 = .ok (.aload_n 0, 1) := by decide +kernel
theorem d_N_deposit_31 : decode b_N_deposit 31 = .ok (.getfield 15, 3) := by decide +kernel
theorem d_N_deposit_34 : decode b_N_deposit 34 = .ok (.iload_n 1, 1) := by decide +kernel
theorem d_N_deposit_35 : decode b_N_deposit 35 = .ok (.dup2, 1) := by decide +kernel
theorem d_N_deposit_36 : decode b_N_deposit 36 = .ok (.laload, 1) := by decide +kernel
theorem d_N_deposit_37 : decode b_N_deposit 37 = .ok (.dload_n 2, 1) := by decide +kernel
theorem d_N_deposit_38 : decode b_N_deposit 38 = .ok (.ldc2_w 80, 3) := by decide +kernel
theorem d_N_deposit_41 : decode b_N_deposit 41 = .ok (.dmul, 1) := by decide +kernel
theorem d_N_deposit_42 : decode b_N_deposit 42 = .ok (.d2l, 1) := by decide +kernel
theorem d_N_deposit_43 : decode b_N_deposit 43 = .ok (.ladd, 1) := by decide +kernel
theorem d_N_deposit_44 : decode b_N_deposit 44 = .ok (.lastore, 1) := by decide +kernel
theorem d_N_deposit_45 : decode b_N_deposit 45 = .ok (.aload_n 0, 1) := by decide +kernel
theorem d_N_deposit_46 : decode b_N_deposit 46 = .ok (.aload_n 0, 1) := by decide +kernel
theorem d_N_deposit_47 : decode b_N_deposit 47 = .ok (.getfield 15, 3) := by decide +kernel
theorem d_N_deposit_50 : decode b_N_deposit 50 = .ok (.iload_n 1, 1) := by decide +kernel
theorem d_N_deposit_51 : decode b_N_deposit 51 = .ok (.laload, 1) := by decide +kernel
theorem d_N_deposit_52 : decode b_N_deposit 52 = .ok (.invokevirtual 129, 3) := by decide +kernel
theorem d_N_deposit_55 : decode b_N_deposit 55 = .ok (.dreturn, 1) := by decide +kernel
theorem d_N_contact_0 : decode b_N_contact 0 = .ok (.iload_n 1, 1) := by decide +kernel
theorem d_N_contact_1 : decode b_N_contact 1 = .ok (.iconst 0, 1) := by decide +kernel
theorem d_N_contact_2 : decode b_N_contact 2 = .ok (.iconst 3, 1) := by decide +kernel
theorem d_N_contact_3 : decode b_N_contact 3 = .ok (.invokestatic 116, 3) := by decide +kernel
theorem d_N_contact_6 : decode b_N_contact 6 = .ok (.ifCond .ne 9, 3) := by decide +kernel
theorem d_N_contact_9 : decode b_N_contact 9 = .ok (.aload_n 0, 1) := by decide +kernel
theorem d_N_contact_10 : decode b_N_contact 10 = .ok (.iconst 1, 1) := by decide +kernel
theorem d_N_contact_11 : decode b_N_contact 11 = .ok (.invokevirtual 122, 3) := by decide +kernel
theorem d_N_contact_14 : decode b_N_contact 14 = .ok (.ireturn, 1) := by decide +kernel
theorem d_N_contact_15 : decode b_N_contact 15 = .ok (.aload_n 0, 1) := by decide +kernel
theorem d_N_contact_16 : decode b_N_contact 16 = .ok (.getfield 82, 3) := by decide +kernel
theorem d_N_contact_19 : decode b_N_contact 19 = .ok (.bipush 8, 2) := by decide +kernel
theorem d_N_contact_21 : decode b_N_contact 21 = .ok (.if_icmp .ne 9, 3) := by decide +kernel
theorem d_N_contact_24 : decode b_N_contact 24 = .ok (.aload_n 0, 1) := by decide +kernel
theorem d_N_contact_25 : decode b_N_contact 25 = .ok (.iconst 4, 1) := by decide +kernel
theorem d_N_contact_26 : decode b_N_contact 26 = .ok (.invokevirtual 122, 3) := by decide +kernel
theorem d_N_contact_29 : decode b_N_contact 29 = .ok (.ireturn, 1) := by decide +kernel
theorem d_N_contact_30 : decode b_N_contact 30 = .ok (.aload_n 0, 1) := by decide +kernel
theorem d_N_contact_31 : decode b_N_contact 31 = .ok (.getfield 28, 3) := by decide +kernel
theorem d_N_contact_34 : decode b_N_contact 34 = .ok (.aload_n 0, 1) := by decide +kernel
theorem d_N_contact_35 : decode b_N_contact 35 = .ok (.getfield 82, 3) := by decide +kernel
theorem d_N_contact_38 : decode b_N_contact 38 = .ok (.iload_n 1, 1) := by decide +kernel
theorem d_N_contact_39 : decode b_N_contact 39 = .ok (.iastore, 1) := by decide +kernel
theorem d_N_contact_40 : decode b_N_contact 40 = .ok (.aload_n 0, 1) := by decide +kernel
theorem d_N_contact_41 : decode b_N_contact 41 = .ok (.dup, 1) := by decide +kernel
theorem d_N_contact_42 : decode b_N_contact 42 = .ok (.getfield 82, 3) := by decide +kernel
theorem d_N_contact_45 : decode b_N_contact 45 = .ok (.iconst 1, 1) := by decide +kernel
theorem d_N_contact_46 : decode b_N_contact 46 = .ok (.iadd, 1) := by decide +kernel
theorem d_N_contact_47 : decode b_N_contact 47 = .ok (.putfield 82, 3) := by decide +kernel
theorem d_N_contact_50 : decode b_N_contact 50 = .ok (.aload_n 0, 1) := by decide +kernel
theorem d_N_contact_51 : decode b_N_contact 51 = .ok (.aload_n 0, 1) := by decide +kernel
theorem d_N_contact_52 : decode b_N_contact 52 = .ok (.getfield 82, 3) := by decide +kernel
theorem d_N_contact_55 : decode b_N_contact 55 = .ok (.iconst 1, 1) := by decide +kernel
theorem d_N_contact_56 : decode b_N_contact 56 = .ok (.isub, 1) := by decide +kernel
theorem d_N_contact_57 : decode b_N_contact 57 = .ok (.invokevirtual 126, 3) := by decide +kernel
theorem d_N_contact_60 : decode b_N_contact 60 = .ok (.ireturn, 1) := by decide +kernel
