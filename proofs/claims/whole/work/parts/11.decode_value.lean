theorem d_Va_init_0 : decode b_Va_init 0 = .ok (.aload_n 0, 1) := by decide +kernel
theorem d_Va_init_1 : decode b_Va_init 1 = .ok (.invokespecial 3, 3) := by decide +kernel
theorem d_Va_init_4 : decode b_Va_init 4 = .ok (.aload_n 0, 1) := by decide +kernel
theorem d_Va_init_5 : decode b_Va_init 5 = .ok (.new 9, 3) := by decide +kernel
theorem d_Va_init_8 : decode b_Va_init 8 = .ok (.dup, 1) := by decide +kernel
theorem d_Va_init_9 : decode b_Va_init 9 = .ok (.bipush 60, 2) := by decide +kernel
theorem d_Va_init_11 : decode b_Va_init 11 = .ok (.invokespecial 11, 3) := by decide +kernel
theorem d_Va_init_14 : decode b_Va_init 14 = .ok (.putfield 14, 3) := by decide +kernel
theorem d_Va_init_17 : decode b_Va_init 17 = .ok (.return_, 1) := by decide +kernel
theorem d_Va_readWords_0 : decode b_Va_readWords 0 = .ok (.aload_n 0, 1) := by decide +kernel
theorem d_Va_readWords_1 : decode b_Va_readWords 1 = .ok (.iconst 0, 1) := by decide +kernel
theorem d_Va_readWords_2 : decode b_Va_readWords 2 = .ok (.putfield 20, 3) := by decide +kernel
theorem d_Va_readWords_5 : decode b_Va_readWords 5 = .ok (.aload_n 0, 1) := by decide +kernel
theorem d_Va_readWords_6 : decode b_Va_readWords 6 = .ok (.getfield 14, 3) := by decide +kernel
theorem d_Va_readWords_9 : decode b_Va_readWords 9 = .ok (.invokevirtual 24, 3) := by decide +kernel
theorem d_Va_readWords_12 : decode b_Va_readWords 12 = .ok (.aload_n 0, 1) := by decide +kernel
theorem d_Va_readWords_13 : decode b_Va_readWords 13 = .ok (.getfield 14, 3) := by decide +kernel
theorem d_Va_readWords_16 : decode b_Va_readWords 16 = .ok (.aload_n 1, 1) := by decide +kernel
theorem d_Va_readWords_17 : decode b_Va_readWords 17 = .ok (.iconst 0, 1) := by decide +kernel
theorem d_Va_readWords_18 : decode b_Va_readWords 18 = .ok (.aload_n 1, 1) := by decide +kernel
theorem d_Va_readWords_19 : decode b_Va_readWords 19 = .ok (.invokevirtual 27, 3) := by decide +kernel
theorem d_Va_readWords_22 : decode b_Va_readWords 22 = .ok (.invokevirtual 31, 3) := by decide +kernel
theorem d_Va_readWords_25 : decode b_Va_readWords 25 = .ok (.return_, 1) := by decide +kernel
theorem d_Va_matches_0 : decode b_Va_matches 0 = .ok (.aload_n 0, 1) := by decide +kernel
theorem d_Va_matches_1 : decode b_Va_matches 1 = .ok (.getfield 20, 3) := by decide +kernel
theorem d_Va_matches_4 : decode b_Va_matches 4 = .ok (.aload_n 1, 1) := by decide +kernel
theorem d_Va_matches_5 : decode b_Va_matches 5 = .ok (.getfield 20, 3) := by decide +kernel
theorem d_Va_matches_8 : decode b_Va_matches 8 = .ok (.if_icmp .ne 21, 3) := by decide +kernel
theorem d_Va_matches_11 : decode b_Va_matches 11 = .ok (.aload_n 0, 1) := by decide +kernel
theorem d_Va_matches_12 : decode b_Va_matches 12 = .ok (.getfield 14, 3) := by decide +kernel
theorem d_Va_matches_15 : decode b_Va_matches 15 = .ok (.aload_n 1, 1) := by decide +kernel
theorem d_Va_matches_16 : decode b_Va_matches 16 = .ok (.getfield 14, 3) := by decide +kernel
theorem d_Va_matches_19 : decode b_Va_matches 19 = .ok (.invokevirtual 78, 3) := by decide +kernel
theorem d_Va_matches_22 : decode b_Va_matches 22 = .ok (.ifCond .eq 7, 3) := by decide +kernel
theorem d_Va_matches_25 : decode b_Va_matches 25 = .ok (.iconst 1, 1) := by decide +kernel
theorem d_Va_matches_26 : decode b_Va_matches 26 = .ok (.goto 4, 3) := by decide +kernel
theorem d_Va_matches_29 : decode b_Va_matches 29 = .ok (.iconst 0, 1) := by decide +kernel
theorem d_Va_matches_30 : decode b_Va_matches 30 = .ok (.ireturn, 1) := by decide +kernel
theorem d_Va_readDecimal_0 : decode b_Va_readDecimal 0 = .ok (.aload_n 1, 1) := by decide +kernel
theorem d_Va_readDecimal_1 : decode b_Va_readDecimal 1 = .ok (.iconst 0, 1) := by decide +kernel
theorem d_Va_readDecimal_2 : decode b_Va_readDecimal 2 = .ok (.invokevirtual 35, 3) := by decide +kernel
theorem d_Va_readDecimal_5 : decode b_Va_readDecimal 5 = .ok (.bipush 45, 2) := by decide +kernel
theorem d_Va_readDecimal_7 : decode b_Va_readDecimal 7 = .ok (.if_icmp .ne 7, 3) := by decide +kernel
theorem d_Va_readDecimal_10 : decode b_Va_readDecimal 10 = .ok (.iconst 1, 1) := by decide +kernel
theorem d_Va_readDecimal_11 : decode b_Va_readDecimal 11 = .ok (.goto 4, 3) := by decide +kernel
theorem d_Va_readDecimal_14 : decode b_Va_readDecimal 14 = .ok (.iconst 0, 1) := by decide +kernel
theorem d_Va_readDecimal_15 : decode b_Va_readDecimal 15 = .ok (.istore_n 2, 1) := by decide +kernel
theorem d_Va_readDecimal_16 : decode b_Va_readDecimal 16 = .ok (.iload_n 2, 1) := by decide +kernel
theorem d_Va_readDecimal_17 : decode b_Va_readDecimal 17 = .ok (.aload_n 1, 1) := by decide +kernel
theorem d_Va_readDecimal_18 : decode b_Va_readDecimal 18 = .ok (.iload_n 2, 1) := by decide +kernel
theorem d_Va_readDecimal_19 : decode b_Va_readDecimal 19 = .ok (.invokevirtual 39, 3) := by decide +kernel
theorem d_Va_readDecimal_22 : decode b_Va_readDecimal 22 = .ok (.iadd, 1) := by decide +kernel
theorem d_Va_readDecimal_23 : decode b_Va_readDecimal 23 = .ok (.istore_n 3, 1) := by decide +kernel
theorem d_Va_readDecimal_24 : decode b_Va_readDecimal 24 = .ok (.aload_n 1, 1) := by decide +kernel
theorem d_Va_readDecimal_25 : decode b_Va_readDecimal 25 = .ok (.iload_n 3, 1) := by decide +kernel
theorem d_Va_readDecimal_26 : decode b_Va_readDecimal 26 = .ok (.invokevirtual 35, 3) := by decide +kernel
theorem d_Va_readDecimal_29 : decode b_Va_readDecimal 29 = .ok (.bipush 46, 2) := by decide +kernel
theorem d_Va_readDecimal_31 : decode b_Va_readDecimal 31 = .ok (.if_icmp .ne 7, 3) := by decide +kernel
theorem d_Va_readDecimal_34 : decode b_Va_readDecimal 34 = .ok (.iconst 1, 1) := by decide +kernel
theorem d_Va_readDecimal_35 : decode b_Va_readDecimal 35 = .ok (.goto 4, 3) := by decide +kernel
theorem d_Va_readDecimal_38 : decode b_Va_readDecimal 38 = .ok (.iconst 0, 1) := by decide +kernel
theorem d_Va_readDecimal_39 : decode b_Va_readDecimal 39 = .ok (.istore 4, 2) := by decide +kernel
theorem d_Va_readDecimal_41 : decode b_Va_readDecimal 41 = .ok (.iload 4, 2) := by decide +kernel
theorem d_Va_readDecimal_43 : decode b_Va_readDecimal 43 = .ok (.ifCond .eq 13, 3) := by decide +kernel
theorem d_Va_readDecimal_46 : decode b_Va_readDecimal 46 = .ok (.aload_n 1, 1) := by decide +kernel
theorem d_Va_readDecimal_47 : decode b_Va_readDecimal 47 = .ok (.iload_n 3, 1) := by decide +kernel
theorem d_Va_readDecimal_48 : decode b_Va_readDecimal 48 = .ok (.iconst 1, 1) := by decide +kernel
theorem d_Va_readDecimal_49 : decode b_Va_readDecimal 49 = .ok (.iadd, 1) := by decide +kernel
theorem d_Va_readDecimal_50 : decode b_Va_readDecimal 50 = .ok (.invokevirtual 39, 3) := by decide +kernel
theorem d_Va_readDecimal_53 : decode b_Va_readDecimal 53 = .ok (.goto 4, 3) := by decide +kernel
theorem d_Va_readDecimal_56 : decode b_Va_readDecimal 56 = .ok (.iconst 0, 1) := by decide +kernel
theorem d_Va_readDecimal_57 : decode b_Va_readDecimal 57 = .ok (.istore 5, 2) := by decide +kernel
theorem d_Va_readDecimal_59 : decode b_Va_readDecimal 59 = .ok (.iload 4, 2) := by decide +kernel
theorem d_Va_readDecimal_61 : decode b_Va_readDecimal 61 = .ok (.ifCond .eq 12, 3) := by decide +kernel
theorem d_Va_readDecimal_64 : decode b_Va_readDecimal 64 = .ok (.iload_n 3, 1) := by decide +kernel
theorem d_Va_readDecimal_65 : decode b_Va_readDecimal 65 = .ok (.iconst 1, 1) := by decide +kernel
theorem d_Va_readDecimal_66 : decode b_Va_readDecimal 66 = .ok (.iadd, 1) := by decide +kernel
theorem d_Va_readDecimal_67 : decode b_Va_readDecimal 67 = .ok (.iload 5, 2) := by decide +kernel
theorem d_Va_readDecimal_69 : decode b_Va_readDecimal 69 = .ok (.iadd, 1) := by decide +kernel
theorem d_Va_readDecimal_70 : decode b_Va_readDecimal 70 = .ok (.goto 4, 3) := by decide +kernel
theorem d_Va_readDecimal_73 : decode b_Va_readDecimal 73 = .ok (.iload_n 3, 1) := by decide +kernel
theorem d_Va_readDecimal_74 : decode b_Va_readDecimal 74 = .ok (.istore 6, 2) := by decide +kernel
theorem d_Va_readDecimal_76 : decode b_Va_readDecimal 76 = .ok (.iload_n 3, 1) := by decide +kernel
theorem d_Va_readDecimal_77 : decode b_Va_readDecimal 77 = .ok (.iload_n 2, 1) := by decide +kernel
theorem d_Va_readDecimal_78 : decode b_Va_readDecimal 78 = .ok (.if_icmp .eq 18, 3) := by decide +kernel
theorem d_Va_readDecimal_81 : decode b_Va_readDecimal 81 = .ok (.iload_n 3, 1) := by decide +kernel
theorem d_Va_readDecimal_82 : decode b_Va_readDecimal 82 = .ok (.iload_n 2, 1) := by decide +kernel
theorem d_Va_readDecimal_83 : decode b_Va_readDecimal 83 = .ok (.isub, 1) := by decide +kernel
theorem d_Va_readDecimal_84 : decode b_Va_readDecimal 84 = .ok (.bipush 18, 2) := by decide +kernel
theorem d_Va_readDecimal_86 : decode b_Va_readDecimal 86 = .ok (.if_icmp .gt 10, 3) := by decide +kernel
theorem d_Va_readDecimal_89 : decode b_Va_readDecimal 89 = .ok (.iload 5, 2) := by decide +kernel
theorem d_Va_readDecimal_91 : decode b_Va_readDecimal 91 = .ok (.bipush 12, 2) := by decide +kernel
theorem d_Va_readDecimal_93 : decode b_Va_readDecimal 93 = .ok (.if_icmp .le 5, 3) := by decide +kernel
theorem d_Va_readDecimal_96 : decode b_Va_readDecimal 96 = .ok (.iconst 0, 1) := by decide +kernel
theorem d_Va_readDecimal_97 : decode b_Va_readDecimal 97 = .ok (.ireturn, 1) := by decide +kernel
theorem d_Va_readDecimal_98 : decode b_Va_readDecimal 98 = .ok (.iload 4, 2) := by decide +kernel
theorem d_Va_readDecimal_100 : decode b_Va_readDecimal 100 = .ok (.ifCond .eq 8, 3) := by decide +kernel
theorem d_Va_readDecimal_103 : decode b_Va_readDecimal 103 = .ok (.iload 5, 2) := by decide +kernel
theorem d_Va_readDecimal_105 : decode b_Va_readDecimal 105 = .ok (.ifCond .eq 12, 3) := by decide +kernel
theorem d_Va_readDecimal_108 : decode b_Va_readDecimal 108 = .ok (.iload 6, 2) := by decide +kernel
theorem d_Va_readDecimal_110 : decode b_Va_readDecimal 110 = .ok (.aload_n 1, 1) := by decide +kernel
theorem d_Va_readDecimal_111 : decode b_Va_readDecimal 111 = .ok (.invokevirtual 27, 3) := by decide +kernel
theorem d_Va_readDecimal_114 : decode b_Va_readDecimal 114 = .ok (.if_icmp .eq 5, 3) := by decide +kernel
theorem d_Va_readDecimal_117 : decode b_Va_readDecimal 117 = .ok (.iconst 0, 1) := by decide +kernel
theorem d_Va_readDecimal_118 : decode b_Va_readDecimal 118 = .ok (.ireturn, 1) := by decide +kernel
theorem d_Va_readDecimal_119 : decode b_Va_readDecimal 119 = .ok (.aload_n 0, 1) := by decide +kernel
theorem d_Va_readDecimal_120 : decode b_Va_readDecimal 120 = .ok (.iconst 1, 1) := by decide +kernel
theorem d_Va_readDecimal_121 : decode b_Va_readDecimal 121 = .ok (.putfield 20, 3) := by decide +kernel
theorem d_Va_readDecimal_124 : decode b_Va_readDecimal 124 = .ok (.aload_n 0, 1) := by decide +kernel
theorem d_Va_readDecimal_125 : decode b_Va_readDecimal 125 = .ok (.aload_n 1, 1) := by decide +kernel
theorem d_Va_readDecimal_126 : decode b_Va_readDecimal 126 = .ok (.iload_n 2, 1) := by decide +kernel
theorem d_Va_readDecimal_127 : decode b_Va_readDecimal 127 = .ok (.iload_n 3, 1) := by decide +kernel
theorem d_Va_readDecimal_128 : decode b_Va_readDecimal 128 = .ok (.iload_n 2, 1) := by decide +kernel
theorem d_Va_readDecimal_129 : decode b_Va_readDecimal 129 = .ok (.isub, 1) := by decide +kernel
theorem d_Va_readDecimal_130 : decode b_Va_readDecimal 130 = .ok (.invokevirtual 42, 3) := by decide +kernel
theorem d_Va_readDecimal_133 : decode b_Va_readDecimal 133 = .ok (.putfield 46, 3) := by decide +kernel
theorem d_Va_readDecimal_136 : decode b_Va_readDecimal 136 = .ok (.aload_n 0, 1) := by decide +kernel
theorem d_Va_readDecimal_137 : decode b_Va_readDecimal 137 = .ok (.aload_n 1, 1) := by decide +kernel
theorem d_Va_readDecimal_138 : decode b_Va_readDecimal 138 = .ok (.iload_n 3, 1) := by decide +kernel
theorem d_Va_readDecimal_139 : decode b_Va_readDecimal 139 = .ok (.iconst 1, 1) := by decide +kernel
theorem d_Va_readDecimal_140 : decode b_Va_readDecimal 140 = .ok (.iadd, 1) := by decide +kernel
theorem d_Va_readDecimal_141 : decode b_Va_readDecimal 141 = .ok (.iload 5, 2) := by decide +kernel
theorem d_Va_readDecimal_143 : decode b_Va_readDecimal 143 = .ok (.invokevirtual 42, 3) := by decide +kernel
theorem d_Va_readDecimal_146 : decode b_Va_readDecimal 146 = .ok (.putfield 50, 3) := by decide +kernel
theorem d_Va_readDecimal_149 : decode b_Va_readDecimal 149 = .ok (.iload 5, 2) := by decide +kernel
theorem d_Va_readDecimal_151 : decode b_Va_readDecimal 151 = .ok (.istore 7, 2) := by decide +kernel
theorem d_Va_readDecimal_153 : decode b_Va_readDecimal 153 = .ok (.iload 7, 2) := by decide +kernel
theorem d_Va_readDecimal_155 : decode b_Va_readDecimal 155 = .ok (.bipush 12, 2) := by decide +kernel
theorem d_Va_readDecimal_157 : decode b_Va_readDecimal 157 = .ok (.if_icmp .ge 21, 3) := by decide +kernel
theorem d_Va_readDecimal_160 : decode b_Va_readDecimal 160 = .ok (.aload_n 0, 1) := by decide +kernel
theorem d_Va_readDecimal_161 : decode b_Va_readDecimal 161 = .ok (.aload_n 0, 1) := by decide +kernel
theorem d_Va_readDecimal_162 : decode b_Va_readDecimal 162 = .ok (.getfield 50, 3) := by decide +kernel
theorem d_Va_readDecimal_165 : decode b_Va_readDecimal 165 = .ok (.ldc2_w 53, 3) := by decide +kernel
theorem d_Va_readDecimal_168 : decode b_Va_readDecimal 168 = .ok (.lmul, 1) := by decide +kernel
theorem d_Va_readDecimal_169 : decode b_Va_readDecimal 169 = .ok (.putfield 50, 3) := by decide +kernel
theorem d_Va_readDecimal_172 : decode b_Va_readDecimal 172 = .ok (.iinc 7 1, 3) := by decide +kernel
theorem d_Va_readDecimal_175 : decode b_Va_readDecimal 175 = .ok (.goto (-22), 3) := by decide +kernel
theorem d_Va_readDecimal_178 : decode b_Va_readDecimal 178 = .ok (.aload_n 0, 1) := by decide +kernel
theorem d_Va_readDecimal_179 : decode b_Va_readDecimal 179 = .ok (.iload_n 2, 1) := by decide +kernel
theorem d_Va_readDecimal_180 : decode b_Va_readDecimal 180 = .ok (.iconst 1, 1) := by decide +kernel
theorem d_Va_readDecimal_181 : decode b_Va_readDecimal 181 = .ok (.if_icmp .ne 25, 3) := by decide +kernel
theorem d_Va_readDecimal_184 : decode b_Va_readDecimal 184 = .ok (.aload_n 0, 1) := by decide +kernel
theorem d_Va_readDecimal_185 : decode b_Va_readDecimal 185 = .ok (.getfield 46, 3) := by decide +kernel
theorem d_Va_readDecimal_188 : decode b_Va_readDecimal 188 = .ok (.lconst 0, 1) := by decide +kernel
theorem d_Va_readDecimal_189 : decode b_Va_readDecimal 189 = .ok (.lcmp, 1) := by decide +kernel
theorem d_Va_readDecimal_190 : decode b_Va_readDecimal 190 = .ok (.ifCond .ne 12, 3) := by decide +kernel
theorem d_Va_readDecimal_193 : decode b_Va_readDecimal 193 = .ok (.aload_n 0, 1) := by decide +kernel
theorem d_Va_readDecimal_194 : decode b_Va_readDecimal 194 = .ok (.getfield 50, 3) := by decide +kernel
theorem d_Va_readDecimal_197 : decode b_Va_readDecimal 197 = .ok (.lconst 0, 1) := by decide +kernel
theorem d_Va_readDecimal_198 : decode b_Va_readDecimal 198 = .ok (.lcmp, 1) := by decide +kernel
theorem d_Va_readDecimal_199 : decode b_Va_readDecimal 199 = .ok (.ifCond .eq 7, 3) := by decide +kernel
theorem d_Va_readDecimal_202 : decode b_Va_readDecimal 202 = .ok (.iconst 1, 1) := by decide +kernel
theorem d_Va_readDecimal_203 : decode b_Va_readDecimal 203 = .ok (.goto 4, 3) := by decide +kernel
theorem d_Va_readDecimal_206 : decode b_Va_readDecimal 206 = .ok (.iconst 0, 1) := by decide +kernel
theorem d_Va_readDecimal_207 : decode b_Va_readDecimal 207 = .ok (.putfield 55, 3) := by decide +kernel
theorem d_Va_readDecimal_210 : decode b_Va_readDecimal 210 = .ok (.aload_n 0, 1) := by decide +kernel
theorem d_Va_readDecimal_211 : decode b_Va_readDecimal 211 = .ok (.aload_n 1, 1) := by decide +kernel
theorem d_Va_readDecimal_212 : decode b_Va_readDecimal 212 = .ok (.iload_n 2, 1) := by decide +kernel
theorem d_Va_readDecimal_213 : decode b_Va_readDecimal 213 = .ok (.iload_n 3, 1) := by decide +kernel
theorem d_Va_readDecimal_214 : decode b_Va_readDecimal 214 = .ok (.iload 6, 2) := by decide +kernel
theorem d_Va_readDecimal_216 : decode b_Va_readDecimal 216 = .ok (.invokevirtual 58, 3) := by decide +kernel
theorem d_Va_readDecimal_219 : decode b_Va_readDecimal 219 = .ok (.iconst 1, 1) := by decide +kernel
theorem d_Va_readDecimal_220 : decode b_Va_readDecimal 220 = .ok (.ireturn, 1) := by decide +kernel
theorem d_Va_writePlain_0 : decode b_Va_writePlain 0 = .ok (.aload_n 0, 1) := by decide +kernel
theorem d_Va_writePlain_1 : decode b_Va_writePlain 1 = .ok (.getfield 14, 3) := by decide +kernel
theorem d_Va_writePlain_4 : decode b_Va_writePlain 4 = .ok (.invokevirtual 24, 3) := by decide +kernel
theorem d_Va_writePlain_7 : decode b_Va_writePlain 7 = .ok (.aload_n 0, 1) := by decide +kernel
theorem d_Va_writePlain_8 : decode b_Va_writePlain 8 = .ok (.getfield 55, 3) := by decide +kernel
theorem d_Va_writePlain_11 : decode b_Va_writePlain 11 = .ok (.ifCond .eq 12, 3) := by decide +kernel
theorem d_Va_writePlain_14 : decode b_Va_writePlain 14 = .ok (.aload_n 0, 1) := by decide +kernel
theorem d_Va_writePlain_15 : decode b_Va_writePlain 15 = .ok (.getfield 14, 3) := by decide +kernel
theorem d_Va_writePlain_18 : decode b_Va_writePlain 18 = .ok (.bipush 45, 2) := by decide +kernel
theorem d_Va_writePlain_20 : decode b_Va_writePlain 20 = .ok (.invokevirtual 62, 3) := by decide +kernel
theorem d_Va_writePlain_23 : decode b_Va_writePlain 23 = .ok (.iload_n 2, 1) := by decide +kernel
theorem d_Va_writePlain_24 : decode b_Va_writePlain 24 = .ok (.istore 5, 2) := by decide +kernel
theorem d_Va_writePlain_26 : decode b_Va_writePlain 26 = .ok (.iload 5, 2) := by decide +kernel
theorem d_Va_writePlain_28 : decode b_Va_writePlain 28 = .ok (.iload_n 3, 1) := by decide +kernel
theorem d_Va_writePlain_29 : decode b_Va_writePlain 29 = .ok (.iconst 1, 1) := by decide +kernel
theorem d_Va_writePlain_30 : decode b_Va_writePlain 30 = .ok (.isub, 1) := by decide +kernel
theorem d_Va_writePlain_31 : decode b_Va_writePlain 31 = .ok (.if_icmp .ge 20, 3) := by decide +kernel
theorem d_Va_writePlain_34 : decode b_Va_writePlain 34 = .ok (.aload_n 1, 1) := by decide +kernel
theorem d_Va_writePlain_35 : decode b_Va_writePlain 35 = .ok (.iload 5, 2) := by decide +kernel
theorem d_Va_writePlain_37 : decode b_Va_writePlain 37 = .ok (.invokevirtual 35, 3) := by decide +kernel
theorem d_Va_writePlain_40 : decode b_Va_writePlain 40 = .ok (.bipush 48, 2) := by decide +kernel
theorem d_Va_writePlain_42 : decode b_Va_writePlain 42 = .ok (.if_icmp .ne 9, 3) := by decide +kernel
theorem d_Va_writePlain_45 : decode b_Va_writePlain 45 = .ok (.iinc 5 1, 3) := by decide +kernel
theorem d_Va_writePlain_48 : decode b_Va_writePlain 48 = .ok (.goto (-22), 3) := by decide +kernel
theorem d_Va_writePlain_51 : decode b_Va_writePlain 51 = .ok (.aload_n 0, 1) := by decide +kernel
theorem d_Va_writePlain_52 : decode b_Va_writePlain 52 = .ok (.getfield 14, 3) := by decide +kernel
theorem d_Va_writePlain_55 : decode b_Va_writePlain 55 = .ok (.aload_n 1, 1) := by decide +kernel
theorem d_Va_writePlain_56 : decode b_Va_writePlain 56 = .ok (.iload 5, 2) := by decide +kernel
theorem d_Va_writePlain_58 : decode b_Va_writePlain 58 = .ok (.iload_n 3, 1) := by decide +kernel
theorem d_Va_writePlain_59 : decode b_Va_writePlain 59 = .ok (.invokevirtual 31, 3) := by decide +kernel
theorem d_Va_writePlain_62 : decode b_Va_writePlain 62 = .ok (.aload_n 0, 1) := by decide +kernel
theorem d_Va_writePlain_63 : decode b_Va_writePlain 63 = .ok (.getfield 50, 3) := by decide +kernel
theorem d_Va_writePlain_66 : decode b_Va_writePlain 66 = .ok (.lconst 0, 1) := by decide +kernel
theorem d_Va_writePlain_67 : decode b_Va_writePlain 67 = .ok (.lcmp, 1) := by decide +kernel
theorem d_Va_writePlain_68 : decode b_Va_writePlain 68 = .ok (.ifCond .eq 27, 3) := by decide +kernel
theorem d_Va_writePlain_71 : decode b_Va_writePlain 71 = .ok (.aload_n 0, 1) := by decide +kernel
theorem d_Va_writePlain_72 : decode b_Va_writePlain 72 = .ok (.getfield 14, 3) := by decide +kernel
theorem d_Va_writePlain_75 : decode b_Va_writePlain 75 = .ok (.aload_n 1, 1) := by decide +kernel
theorem d_Va_writePlain_76 : decode b_Va_writePlain 76 = .ok (.iload_n 3, 1) := by decide +kernel
theorem d_Va_writePlain_77 : decode b_Va_writePlain 77 = .ok (.iload 4, 2) := by decide +kernel
theorem d_Va_writePlain_79 : decode b_Va_writePlain 79 = .ok (.invokevirtual 31, 3) := by decide +kernel
theorem d_Va_writePlain_82 : decode b_Va_writePlain 82 = .ok (.aload_n 0, 1) := by decide +kernel
theorem d_Va_writePlain_83 : decode b_Va_writePlain 83 = .ok (.getfield 14, 3) := by decide +kernel
theorem d_Va_writePlain_86 : decode b_Va_writePlain 86 = .ok (.iload 4, 2) := by decide +kernel
theorem d_Va_writePlain_88 : decode b_Va_writePlain 88 = .ok (.iload_n 3, 1) := by decide +kernel
theorem d_Va_writePlain_89 : decode b_Va_writePlain 89 = .ok (.isub, 1) := by decide +kernel
theorem d_Va_writePlain_90 : decode b_Va_writePlain 90 = .ok (.iconst 1, 1) := by decide +kernel
theorem d_Va_writePlain_91 : decode b_Va_writePlain 91 = .ok (.isub, 1) := by decide +kernel
theorem d_Va_writePlain_92 : decode b_Va_writePlain 92 = .ok (.invokevirtual 65, 3) := by decide +kernel
theorem d_Va_writePlain_95 : decode b_Va_writePlain 95 = .ok (.return_, 1) := by decide +kernel
theorem d_Va_isStar_0 : decode b_Va_isStar 0 = .ok (.aload_n 0, 1) := by decide +kernel
theorem d_Va_isStar_1 : decode b_Va_isStar 1 = .ok (.getfield 20, 3) := by decide +kernel
theorem d_Va_isStar_4 : decode b_Va_isStar 4 = .ok (.ifCond .eq 18, 3) := by decide +kernel
theorem d_Va_isStar_7 : decode b_Va_isStar 7 = .ok (.aload_n 0, 1) := by decide +kernel
theorem d_Va_isStar_8 : decode b_Va_isStar 8 = .ok (.getfield 46, 3) := by decide +kernel
theorem d_Va_isStar_11 : decode b_Va_isStar 11 = .ok (.ldc2_w 68, 3) := by decide +kernel
theorem d_Va_isStar_14 : decode b_Va_isStar 14 = .ok (.lcmp, 1) := by decide +kernel
theorem d_Va_isStar_15 : decode b_Va_isStar 15 = .ok (.ifCond .gt 7, 3) := by decide +kernel
theorem d_Va_isStar_18 : decode b_Va_isStar 18 = .ok (.iconst 1, 1) := by decide +kernel
theorem d_Va_isStar_19 : decode b_Va_isStar 19 = .ok (.goto 4, 3) := by decide +kernel
theorem d_Va_isStar_22 : decode b_Va_isStar 22 = .ok (.iconst 0, 1) := by decide +kernel
theorem d_Va_isStar_23 : decode b_Va_isStar 23 = .ok (.ireturn, 1) := by decide +kernel
theorem d_Va_wholePart_0 : decode b_Va_wholePart 0 = .ok (.aload_n 0, 1) := by decide +kernel
theorem d_Va_wholePart_1 : decode b_Va_wholePart 1 = .ok (.getfield 55, 3) := by decide +kernel
theorem d_Va_wholePart_4 : decode b_Va_wholePart 4 = .ok (.ifCond .eq 11, 3) := by decide +kernel
theorem d_Va_wholePart_7 : decode b_Va_wholePart 7 = .ok (.aload_n 0, 1) := by decide +kernel
theorem d_Va_wholePart_8 : decode b_Va_wholePart 8 = .ok (.getfield 46, 3) := by decide +kernel
theorem d_Va_wholePart_11 : decode b_Va_wholePart 11 = .ok (.lneg, 1) := by decide +kernel
theorem d_Va_wholePart_12 : decode b_Va_wholePart 12 = .ok (.goto 7, 3) := by decide +kernel
theorem d_Va_wholePart_15 : decode b_Va_wholePart 15 = .ok (.aload_n 0, 1) := by decide +kernel
theorem d_Va_wholePart_16 : decode b_Va_wholePart 16 = .ok (.getfield 46, 3) := by decide +kernel
theorem d_Va_wholePart_19 : decode b_Va_wholePart 19 = .ok (.lreturn, 1) := by decide +kernel
theorem d_Va_isMark_0 : decode b_Va_isMark 0 = .ok (.aload_n 0, 1) := by decide +kernel
theorem d_Va_isMark_1 : decode b_Va_isMark 1 = .ok (.getfield 20, 3) := by decide +kernel
theorem d_Va_isMark_4 : decode b_Va_isMark 4 = .ok (.ifCond .ne 20, 3) := by decide +kernel
theorem d_Va_isMark_7 : decode b_Va_isMark 7 = .ok (.aload_n 0, 1) := by decide +kernel
theorem d_Va_isMark_8 : decode b_Va_isMark 8 = .ok (.getfield 14, 3) := by decide +kernel
theorem d_Va_isMark_11 : decode b_Va_isMark 11 = .ok (.invokevirtual 27, 3) := by decide +kernel
theorem d_Va_isMark_14 : decode b_Va_isMark 14 = .ok (.iconst 1, 1) := by decide +kernel
theorem d_Va_isMark_15 : decode b_Va_isMark 15 = .ok (.if_icmp .ne 7, 3) := by decide +kernel
theorem d_Va_isMark_18 : decode b_Va_isMark 18 = .ok (.iconst 1, 1) := by decide +kernel
theorem d_Va_isMark_19 : decode b_Va_isMark 19 = .ok (.goto 4, 3) := by decide +kernel
theorem d_Va_isMark_22 : decode b_Va_isMark 22 = .ok (.iconst 0, 1) := by decide +kernel
theorem d_Va_isMark_23 : decode b_Va_isMark 23 = .ok (.ireturn, 1) := by decide +kernel
theorem d_Va_isMark_24 : decode b_Va_isMark 24 = .ok (.aload_n 0, 1) := by decide +kernel
theorem d_Va_isMark_25 : decode b_Va_isMark 25 = .ok (.invokevirtual 70, 3) := by decide +kernel
theorem d_Va_isMark_28 : decode b_Va_isMark 28 = .ok (.ldc2_w 74, 3) := by decide +kernel
theorem d_Va_isMark_31 : decode b_Va_isMark 31 = .ok (.lcmp, 1) := by decide +kernel
theorem d_Va_isMark_32 : decode b_Va_isMark 32 = .ok (.ifCond .lt 18, 3) := by decide +kernel
theorem d_Va_isMark_35 : decode b_Va_isMark 35 = .ok (.aload_n 0, 1) := by decide +kernel
theorem d_Va_isMark_36 : decode b_Va_isMark 36 = .ok (.invokevirtual 70, 3) := by decide +kernel
theorem d_Va_isMark_39 : decode b_Va_isMark 39 = .ok (.ldc2_w 76, 3) := by decide +kernel
theorem d_Va_isMark_42 : decode b_Va_isMark 42 = .ok (.lcmp, 1) := by decide +kernel
theorem d_Va_isMark_43 : decode b_Va_isMark 43 = .ok (.ifCond .gt 7, 3) := by decide +kernel
theorem d_Va_isMark_46 : decode b_Va_isMark 46 = .ok (.iconst 1, 1) := by decide +kernel
theorem d_Va_isMark_47 : decode b_Va_isMark 47 = .ok (.goto 4, 3) := by decide +kernel
theorem d_Va_isMark_50 : decode b_Va_isMark 50 = .ok (.iconst 0, 1) := by decide +kernel
theorem d_Va_isMark_51 : decode b_Va_isMark 51 = .ok (.ireturn, 1) := by decide +kernel
theorem d_Va_mark_0 : decode b_Va_mark 0 = .ok (.aload_n 0, 1) := by decide +kernel
theorem d_Va_mark_1 : decode b_Va_mark 1 = .ok (.getfield 20, 3) := by decide +kernel
theorem d_Va_mark_4 : decode b_Va_mark 4 = .ok (.ifCond .eq 11, 3) := by decide +kernel
theorem d_Va_mark_7 : decode b_Va_mark 7 = .ok (.aload_n 0, 1) := by decide +kernel
theorem d_Va_mark_8 : decode b_Va_mark 8 = .ok (.invokevirtual 70, 3) := by decide +kernel
theorem d_Va_mark_11 : decode b_Va_mark 11 = .ok (.l2i, 1) := by decide +kernel
theorem d_Va_mark_12 : decode b_Va_mark 12 = .ok (.goto 11, 3) := by decide +kernel
theorem d_Va_mark_15 : decode b_Va_mark 15 = .ok (.aload_n 0, 1) := by decide +kernel
theorem d_Va_mark_16 : decode b_Va_mark 16 = .ok (.getfield 14, 3) := by decide +kernel
theorem d_Va_mark_19 : decode b_Va_mark 19 = .ok (.iconst 0, 1) := by decide +kernel
theorem d_Va_mark_20 : decode b_Va_mark 20 = .ok (.invokevirtual 35, 3) := by decide +kernel
theorem d_Va_mark_23 : decode b_Va_mark 23 = .ok (.ireturn, 1) := by decide +kernel
