theorem d_Sh_init_0 : decode b_Sh_init 0 = .ok (.aload_n 0, 1) := by decide +kernel
theorem d_Sh_init_1 : decode b_Sh_init 1 = .ok (.invokespecial 3, 3) := by decide +kernel
theorem d_Sh_init_4 : decode b_Sh_init 4 = .ok (.aload_n 0, 1) := by decide +kernel
theorem d_Sh_init_5 : decode b_Sh_init 5 = .ok (.new 9, 3) := by decide +kernel
theorem d_Sh_init_8 : decode b_Sh_init 8 = .ok (.dup, 1) := by decide +kernel
theorem d_Sh_init_9 : decode b_Sh_init 9 = .ok (.sipush 160, 3) := by decide +kernel
theorem d_Sh_init_12 : decode b_Sh_init 12 = .ok (.invokespecial 13, 3) := by decide +kernel
theorem d_Sh_init_15 : decode b_Sh_init 15 = .ok (.putfield 16, 3) := by decide +kernel
theorem d_Sh_init_18 : decode b_Sh_init 18 = .ok (.aload_n 0, 1) := by decide +kernel
theorem d_Sh_init_19 : decode b_Sh_init 19 = .ok (.new 20, 3) := by decide +kernel
theorem d_Sh_init_22 : decode b_Sh_init 22 = .ok (.dup, 1) := by decide +kernel
theorem d_Sh_init_23 : decode b_Sh_init 23 = .ok (.invokespecial 22, 3) := by decide +kernel
theorem d_Sh_init_26 : decode b_Sh_init 26 = .ok (.putfield 23, 3) := by decide +kernel
theorem d_Sh_init_29 : decode b_Sh_init 29 = .ok (.aload_n 0, 1) := by decide +kernel
theorem d_Sh_init_30 : decode b_Sh_init 30 = .ok (.bipush 64, 2) := by decide +kernel
theorem d_Sh_init_32 : decode b_Sh_init 32 = .ok (.newarray .int, 2) := by decide +kernel
theorem d_Sh_init_34 : decode b_Sh_init 34 = .ok (.putfield 27, 3) := by decide +kernel
theorem d_Sh_init_37 : decode b_Sh_init 37 = .ok (.return_, 1) := by decide +kernel
theorem d_Sh_form_0 : decode b_Sh_form 0 = .ok (.aload_n 0, 1) := by decide +kernel
theorem d_Sh_form_1 : decode b_Sh_form 1 = .ok (.getfield 16, 3) := by decide +kernel
theorem d_Sh_form_4 : decode b_Sh_form 4 = .ok (.invokevirtual 31, 3) := by decide +kernel
theorem d_Sh_form_7 : decode b_Sh_form 7 = .ok (.aload_n 0, 1) := by decide +kernel
theorem d_Sh_form_8 : decode b_Sh_form 8 = .ok (.iconst (-1), 1) := by decide +kernel
theorem d_Sh_form_9 : decode b_Sh_form 9 = .ok (.putfield 34, 3) := by decide +kernel
theorem d_Sh_form_12 : decode b_Sh_form 12 = .ok (.aload_n 0, 1) := by decide +kernel
theorem d_Sh_form_13 : decode b_Sh_form 13 = .ok (.iconst (-1), 1) := by decide +kernel
theorem d_Sh_form_14 : decode b_Sh_form 14 = .ok (.putfield 38, 3) := by decide +kernel
theorem d_Sh_form_17 : decode b_Sh_form 17 = .ok (.aload_n 2, 1) := by decide +kernel
theorem d_Sh_form_18 : decode b_Sh_form 18 = .ok (.getfield 41, 3) := by decide +kernel
theorem d_Sh_form_21 : decode b_Sh_form 21 = .ok (.lookupswitch 200 #[(69, 159), (71, 168), (88, 118), (98, 140), (99, 186), (100, 107), (101, 159), (102, 150), (103, 168), (111, 129), (113, 177), (120, 118)], 107) := by decide +kernel
theorem d_Sh_form_128 : decode b_Sh_form 128 = .ok (.aload_n 0, 1) := by decide +kernel
theorem d_Sh_form_129 : decode b_Sh_form 129 = .ok (.aload_n 1, 1) := by decide +kernel
theorem d_Sh_form_130 : decode b_Sh_form 130 = .ok (.aload_n 2, 1) := by decide +kernel
theorem d_Sh_form_131 : decode b_Sh_form 131 = .ok (.bipush 10, 2) := by decide +kernel
theorem d_Sh_form_133 : decode b_Sh_form 133 = .ok (.invokevirtual 46, 3) := by decide +kernel
theorem d_Sh_form_136 : decode b_Sh_form 136 = .ok (.goto 102, 3) := by decide +kernel
theorem d_Sh_form_139 : decode b_Sh_form 139 = .ok (.aload_n 0, 1) := by decide +kernel
theorem d_Sh_form_140 : decode b_Sh_form 140 = .ok (.aload_n 1, 1) := by decide +kernel
theorem d_Sh_form_141 : decode b_Sh_form 141 = .ok (.aload_n 2, 1) := by decide +kernel
theorem d_Sh_form_142 : decode b_Sh_form 142 = .ok (.bipush 16, 2) := by decide +kernel
theorem d_Sh_form_144 : decode b_Sh_form 144 = .ok (.invokevirtual 46, 3) := by decide +kernel
theorem d_Sh_form_147 : decode b_Sh_form 147 = .ok (.goto 91, 3) := by decide +kernel
theorem d_Sh_form_150 : decode b_Sh_form 150 = .ok (.aload_n 0, 1) := by decide +kernel
theorem d_Sh_form_151 : decode b_Sh_form 151 = .ok (.aload_n 1, 1) := by decide +kernel
theorem d_Sh_form_152 : decode b_Sh_form 152 = .ok (.aload_n 2, 1) := by decide +kernel
theorem d_Sh_form_153 : decode b_Sh_form 153 = .ok (.bipush 8, 2) := by decide +kernel
theorem d_Sh_form_155 : decode b_Sh_form 155 = .ok (.invokevirtual 46, 3) := by decide +kernel
theorem d_Sh_form_158 : decode b_Sh_form 158 = .ok (.goto 80, 3) := by decide +kernel
theorem d_Sh_form_161 : decode b_Sh_form 161 = .ok (.aload_n 0, 1) := by decide +kernel
theorem d_Sh_form_162 : decode b_Sh_form 162 = .ok (.aload_n 1, 1) := by decide +kernel
theorem d_Sh_form_163 : decode b_Sh_form 163 = .ok (.aload_n 2, 1) := by decide +kernel
theorem d_Sh_form_164 : decode b_Sh_form 164 = .ok (.iconst 2, 1) := by decide +kernel
theorem d_Sh_form_165 : decode b_Sh_form 165 = .ok (.invokevirtual 46, 3) := by decide +kernel
theorem d_Sh_form_168 : decode b_Sh_form 168 = .ok (.goto 70, 3) := by decide +kernel
theorem d_Sh_form_171 : decode b_Sh_form 171 = .ok (.aload_n 0, 1) := by decide +kernel
theorem d_Sh_form_172 : decode b_Sh_form 172 = .ok (.aload_n 1, 1) := by decide +kernel
theorem d_Sh_form_173 : decode b_Sh_form 173 = .ok (.aload_n 2, 1) := by decide +kernel
theorem d_Sh_form_174 : decode b_Sh_form 174 = .ok (.invokevirtual 50, 3) := by decide +kernel
theorem d_Sh_form_177 : decode b_Sh_form 177 = .ok (.goto 61, 3) := by decide +kernel
theorem d_Sh_form_180 : decode b_Sh_form 180 = .ok (.aload_n 0, 1) := by decide +kernel
theorem d_Sh_form_181 : decode b_Sh_form 181 = .ok (.aload_n 1, 1) := by decide +kernel
theorem d_Sh_form_182 : decode b_Sh_form 182 = .ok (.aload_n 2, 1) := by decide +kernel
theorem d_Sh_form_183 : decode b_Sh_form 183 = .ok (.invokevirtual 54, 3) := by decide +kernel
theorem d_Sh_form_186 : decode b_Sh_form 186 = .ok (.goto 52, 3) := by decide +kernel
theorem d_Sh_form_189 : decode b_Sh_form 189 = .ok (.aload_n 0, 1) := by decide +kernel
theorem d_Sh_form_190 : decode b_Sh_form 190 = .ok (.aload_n 1, 1) := by decide +kernel
theorem d_Sh_form_191 : decode b_Sh_form 191 = .ok (.aload_n 2, 1) := by decide +kernel
theorem d_Sh_form_192 : decode b_Sh_form 192 = .ok (.invokevirtual 57, 3) := by decide +kernel
theorem d_Sh_form_195 : decode b_Sh_form 195 = .ok (.goto 43, 3) := by decide +kernel
theorem d_Sh_form_198 : decode b_Sh_form 198 = .ok (.aload_n 0, 1) := by decide +kernel
theorem d_Sh_form_199 : decode b_Sh_form 199 = .ok (.aload_n 1, 1) := by decide +kernel
theorem d_Sh_form_200 : decode b_Sh_form 200 = .ok (.aload_n 2, 1) := by decide +kernel
theorem d_Sh_form_201 : decode b_Sh_form 201 = .ok (.invokevirtual 60, 3) := by decide +kernel
theorem d_Sh_form_204 : decode b_Sh_form 204 = .ok (.goto 34, 3) := by decide +kernel
theorem d_Sh_form_207 : decode b_Sh_form 207 = .ok (.aload_n 0, 1) := by decide +kernel
theorem d_Sh_form_208 : decode b_Sh_form 208 = .ok (.getfield 16, 3) := by decide +kernel
theorem d_Sh_form_211 : decode b_Sh_form 211 = .ok (.aload_n 1, 1) := by decide +kernel
theorem d_Sh_form_212 : decode b_Sh_form 212 = .ok (.invokevirtual 63, 3) := by decide +kernel
theorem d_Sh_form_215 : decode b_Sh_form 215 = .ok (.invokevirtual 69, 3) := by decide +kernel
theorem d_Sh_form_218 : decode b_Sh_form 218 = .ok (.goto 20, 3) := by decide +kernel
theorem d_Sh_form_221 : decode b_Sh_form 221 = .ok (.aload_n 0, 1) := by decide +kernel
theorem d_Sh_form_222 : decode b_Sh_form 222 = .ok (.getfield 16, 3) := by decide +kernel
theorem d_Sh_form_225 : decode b_Sh_form 225 = .ok (.aload_n 1, 1) := by decide +kernel
theorem d_Sh_form_226 : decode b_Sh_form 226 = .ok (.getfield 72, 3) := by decide +kernel
theorem d_Sh_form_229 : decode b_Sh_form 229 = .ok (.iconst 0, 1) := by decide +kernel
theorem d_Sh_form_230 : decode b_Sh_form 230 = .ok (.aload_n 1, 1) := by decide +kernel
theorem d_Sh_form_231 : decode b_Sh_form 231 = .ok (.aload_n 2, 1) := by decide +kernel
theorem d_Sh_form_232 : decode b_Sh_form 232 = .ok (.invokestatic 75, 3) := by decide +kernel
theorem d_Sh_form_235 : decode b_Sh_form 235 = .ok (.invokevirtual 79, 3) := by decide +kernel
theorem d_Sh_form_238 : decode b_Sh_form 238 = .ok (.return_, 1) := by decide +kernel
theorem d_Sh_formWhole_0 : decode b_Sh_formWhole 0 = .ok (.aload_n 0, 1) := by decide +kernel
theorem d_Sh_formWhole_1 : decode b_Sh_formWhole 1 = .ok (.aload_n 2, 1) := by decide +kernel
theorem d_Sh_formWhole_2 : decode b_Sh_formWhole 2 = .ok (.aload_n 1, 1) := by decide +kernel
theorem d_Sh_formWhole_3 : decode b_Sh_formWhole 3 = .ok (.invokevirtual 83, 3) := by decide +kernel
theorem d_Sh_formWhole_6 : decode b_Sh_formWhole 6 = .ok (.lconst 0, 1) := by decide +kernel
theorem d_Sh_formWhole_7 : decode b_Sh_formWhole 7 = .ok (.lcmp, 1) := by decide +kernel
theorem d_Sh_formWhole_8 : decode b_Sh_formWhole 8 = .ok (.ifCond .ge 7, 3) := by decide +kernel
theorem d_Sh_formWhole_11 : decode b_Sh_formWhole 11 = .ok (.iconst 1, 1) := by decide +kernel
theorem d_Sh_formWhole_12 : decode b_Sh_formWhole 12 = .ok (.goto 4, 3) := by decide +kernel
theorem d_Sh_formWhole_15 : decode b_Sh_formWhole 15 = .ok (.iconst 0, 1) := by decide +kernel
theorem d_Sh_formWhole_16 : decode b_Sh_formWhole 16 = .ok (.invokevirtual 87, 3) := by decide +kernel
theorem d_Sh_formWhole_19 : decode b_Sh_formWhole 19 = .ok (.putfield 34, 3) := by decide +kernel
theorem d_Sh_formWhole_22 : decode b_Sh_formWhole 22 = .ok (.aload_n 2, 1) := by decide +kernel
theorem d_Sh_formWhole_23 : decode b_Sh_formWhole 23 = .ok (.getfield 91, 3) := by decide +kernel
theorem d_Sh_formWhole_26 : decode b_Sh_formWhole 26 = .ok (.ifCond .eq 17, 3) := by decide +kernel
theorem d_Sh_formWhole_29 : decode b_Sh_formWhole 29 = .ok (.iload_n 3, 1) := by decide +kernel
theorem d_Sh_formWhole_30 : decode b_Sh_formWhole 30 = .ok (.bipush 10, 2) := by decide +kernel
theorem d_Sh_formWhole_32 : decode b_Sh_formWhole 32 = .ok (.if_icmp .eq 11, 3) := by decide +kernel
theorem d_Sh_formWhole_35 : decode b_Sh_formWhole 35 = .ok (.aload_n 0, 1) := by decide +kernel
theorem d_Sh_formWhole_36 : decode b_Sh_formWhole 36 = .ok (.aload_n 2, 1) := by decide +kernel
theorem d_Sh_formWhole_37 : decode b_Sh_formWhole 37 = .ok (.getfield 41, 3) := by decide +kernel
theorem d_Sh_formWhole_40 : decode b_Sh_formWhole 40 = .ok (.putfield 38, 3) := by decide +kernel
theorem d_Sh_formWhole_43 : decode b_Sh_formWhole 43 = .ok (.aload_n 0, 1) := by decide +kernel
theorem d_Sh_formWhole_44 : decode b_Sh_formWhole 44 = .ok (.aload_n 1, 1) := by decide +kernel
theorem d_Sh_formWhole_45 : decode b_Sh_formWhole 45 = .ok (.getfield 95, 3) := by decide +kernel
theorem d_Sh_formWhole_48 : decode b_Sh_formWhole 48 = .ok (.iload_n 3, 1) := by decide +kernel
theorem d_Sh_formWhole_49 : decode b_Sh_formWhole 49 = .ok (.invokevirtual 99, 3) := by decide +kernel
theorem d_Sh_formWhole_52 : decode b_Sh_formWhole 52 = .ok (.istore 4, 2) := by decide +kernel
theorem d_Sh_formWhole_54 : decode b_Sh_formWhole 54 = .ok (.aload_n 2, 1) := by decide +kernel
theorem d_Sh_formWhole_55 : decode b_Sh_formWhole 55 = .ok (.getfield 41, 3) := by decide +kernel
theorem d_Sh_formWhole_58 : decode b_Sh_formWhole 58 = .ok (.bipush 88, 2) := by decide +kernel
theorem d_Sh_formWhole_60 : decode b_Sh_formWhole 60 = .ok (.if_icmp .ne 8, 3) := by decide +kernel
theorem d_Sh_formWhole_63 : decode b_Sh_formWhole 63 = .ok (.bipush 65, 2) := by decide +kernel
theorem d_Sh_formWhole_65 : decode b_Sh_formWhole 65 = .ok (.goto 5, 3) := by decide +kernel
theorem d_Sh_formWhole_68 : decode b_Sh_formWhole 68 = .ok (.bipush 97, 2) := by decide +kernel
theorem d_Sh_formWhole_70 : decode b_Sh_formWhole 70 = .ok (.istore 5, 2) := by decide +kernel
theorem d_Sh_formWhole_72 : decode b_Sh_formWhole 72 = .ok (.aload_n 0, 1) := by decide +kernel
theorem d_Sh_formWhole_73 : decode b_Sh_formWhole 73 = .ok (.getfield 16, 3) := by decide +kernel
theorem d_Sh_formWhole_76 : decode b_Sh_formWhole 76 = .ok (.bipush 48, 2) := by decide +kernel
theorem d_Sh_formWhole_78 : decode b_Sh_formWhole 78 = .ok (.aload_n 2, 1) := by decide +kernel
theorem d_Sh_formWhole_79 : decode b_Sh_formWhole 79 = .ok (.getfield 103, 3) := by decide +kernel
theorem d_Sh_formWhole_82 : decode b_Sh_formWhole 82 = .ok (.iload 4, 2) := by decide +kernel
theorem d_Sh_formWhole_84 : decode b_Sh_formWhole 84 = .ok (.isub, 1) := by decide +kernel
theorem d_Sh_formWhole_85 : decode b_Sh_formWhole 85 = .ok (.invokevirtual 106, 3) := by decide +kernel
theorem d_Sh_formWhole_88 : decode b_Sh_formWhole 88 = .ok (.iload 4, 2) := by decide +kernel
theorem d_Sh_formWhole_90 : decode b_Sh_formWhole 90 = .ok (.iconst 1, 1) := by decide +kernel
theorem d_Sh_formWhole_91 : decode b_Sh_formWhole 91 = .ok (.isub, 1) := by decide +kernel
theorem d_Sh_formWhole_92 : decode b_Sh_formWhole 92 = .ok (.istore 6, 2) := by decide +kernel
theorem d_Sh_formWhole_94 : decode b_Sh_formWhole 94 = .ok (.iload 6, 2) := by decide +kernel
theorem d_Sh_formWhole_96 : decode b_Sh_formWhole 96 = .ok (.ifCond .lt 48, 3) := by decide +kernel
theorem d_Sh_formWhole_99 : decode b_Sh_formWhole 99 = .ok (.aload_n 0, 1) := by decide +kernel
theorem d_Sh_formWhole_100 : decode b_Sh_formWhole 100 = .ok (.getfield 27, 3) := by decide +kernel
theorem d_Sh_formWhole_103 : decode b_Sh_formWhole 103 = .ok (.iload 6, 2) := by decide +kernel
theorem d_Sh_formWhole_105 : decode b_Sh_formWhole 105 = .ok (.iaload, 1) := by decide +kernel
theorem d_Sh_formWhole_106 : decode b_Sh_formWhole 106 = .ok (.istore 7, 2) := by decide +kernel
theorem d_Sh_formWhole_108 : decode b_Sh_formWhole 108 = .ok (.aload_n 0, 1) := by decide +kernel
theorem d_Sh_formWhole_109 : decode b_Sh_formWhole 109 = .ok (.getfield 16, 3) := by decide +kernel
theorem d_Sh_formWhole_112 : decode b_Sh_formWhole 112 = .ok (.iload 7, 2) := by decide +kernel
theorem d_Sh_formWhole_114 : decode b_Sh_formWhole 114 = .ok (.bipush 10, 2) := by decide +kernel
theorem d_Sh_formWhole_116 : decode b_Sh_formWhole 116 = .ok (.if_icmp .ge 11, 3) := by decide +kernel
theorem d_Sh_formWhole_119 : decode b_Sh_formWhole 119 = .ok (.bipush 48, 2) := by decide +kernel
theorem d_Sh_formWhole_121 : decode b_Sh_formWhole 121 = .ok (.iload 7, 2) := by decide +kernel
theorem d_Sh_formWhole_123 : decode b_Sh_formWhole 123 = .ok (.iadd, 1) := by decide +kernel
theorem d_Sh_formWhole_124 : decode b_Sh_formWhole 124 = .ok (.goto 11, 3) := by decide +kernel
theorem d_Sh_formWhole_127 : decode b_Sh_formWhole 127 = .ok (.iload 5, 2) := by decide +kernel
theorem d_Sh_formWhole_129 : decode b_Sh_formWhole 129 = .ok (.iload 7, 2) := by decide +kernel
theorem d_Sh_formWhole_131 : decode b_Sh_formWhole 131 = .ok (.iadd, 1) := by decide +kernel
theorem d_Sh_formWhole_132 : decode b_Sh_formWhole 132 = .ok (.bipush 10, 2) := by decide +kernel
theorem d_Sh_formWhole_134 : decode b_Sh_formWhole 134 = .ok (.isub, 1) := by decide +kernel
theorem d_Sh_formWhole_135 : decode b_Sh_formWhole 135 = .ok (.invokevirtual 69, 3) := by decide +kernel
theorem d_Sh_formWhole_138 : decode b_Sh_formWhole 138 = .ok (.iinc 6 (-1), 3) := by decide +kernel
theorem d_Sh_formWhole_141 : decode b_Sh_formWhole 141 = .ok (.goto (-47), 3) := by decide +kernel
theorem d_Sh_formWhole_144 : decode b_Sh_formWhole 144 = .ok (.return_, 1) := by decide +kernel
theorem d_Sh_splitWhole_0 : decode b_Sh_splitWhole 0 = .ok (.iload_n 3, 1) := by decide +kernel
theorem d_Sh_splitWhole_1 : decode b_Sh_splitWhole 1 = .ok (.iconst 2, 1) := by decide +kernel
theorem d_Sh_splitWhole_2 : decode b_Sh_splitWhole 2 = .ok (.if_icmp .ge 5, 3) := by decide +kernel
theorem d_Sh_splitWhole_5 : decode b_Sh_splitWhole 5 = .ok (.iconst 0, 1) := by decide +kernel
theorem d_Sh_splitWhole_6 : decode b_Sh_splitWhole 6 = .ok (.ireturn, 1) := by decide +kernel
theorem d_Sh_splitWhole_7 : decode b_Sh_splitWhole 7 = .ok (.lload_n 1, 1) := by decide +kernel
theorem d_Sh_splitWhole_8 : decode b_Sh_splitWhole 8 = .ok (.lstore 4, 2) := by decide +kernel
theorem d_Sh_splitWhole_10 : decode b_Sh_splitWhole 10 = .ok (.iconst 0, 1) := by decide +kernel
theorem d_Sh_splitWhole_11 : decode b_Sh_splitWhole 11 = .ok (.istore 6, 2) := by decide +kernel
theorem d_Sh_splitWhole_13 : decode b_Sh_splitWhole 13 = .ok (.iload 6, 2) := by decide +kernel
theorem d_Sh_splitWhole_15 : decode b_Sh_splitWhole 15 = .ok (.bipush 64, 2) := by decide +kernel
theorem d_Sh_splitWhole_17 : decode b_Sh_splitWhole 17 = .ok (.if_icmp .ge 41, 3) := by decide +kernel
theorem d_Sh_splitWhole_20 : decode b_Sh_splitWhole 20 = .ok (.iload 6, 2) := by decide +kernel
theorem d_Sh_splitWhole_22 : decode b_Sh_splitWhole 22 = .ok (.ifCond .eq 10, 3) := by decide +kernel
theorem d_Sh_splitWhole_25 : decode b_Sh_splitWhole 25 = .ok (.lload 4, 2) := by decide +kernel
theorem d_Sh_splitWhole_27 : decode b_Sh_splitWhole 27 = .ok (.lconst 0, 1) := by decide +kernel
theorem d_Sh_splitWhole_28 : decode b_Sh_splitWhole 28 = .ok (.lcmp, 1) := by decide +kernel
theorem d_Sh_splitWhole_29 : decode b_Sh_splitWhole 29 = .ok (.ifCond .le 29, 3) := by decide +kernel
theorem d_Sh_splitWhole_32 : decode b_Sh_splitWhole 32 = .ok (.aload_n 0, 1) := by decide +kernel
theorem d_Sh_splitWhole_33 : decode b_Sh_splitWhole 33 = .ok (.getfield 27, 3) := by decide +kernel
theorem d_Sh_splitWhole_36 : decode b_Sh_splitWhole 36 = .ok (.iload 6, 2) := by decide +kernel
theorem d_Sh_splitWhole_38 : decode b_Sh_splitWhole 38 = .ok (.lload 4, 2) := by decide +kernel
theorem d_Sh_splitWhole_40 : decode b_Sh_splitWhole 40 = .ok (.iload_n 3, 1) := by decide +kernel
theorem d_Sh_splitWhole_41 : decode b_Sh_splitWhole 41 = .ok (.i2l, 1) := by decide +kernel
theorem d_Sh_splitWhole_42 : decode b_Sh_splitWhole 42 = .ok (.lrem, 1) := by decide +kernel
theorem d_Sh_splitWhole_43 : decode b_Sh_splitWhole 43 = .ok (.l2i, 1) := by decide +kernel
theorem d_Sh_splitWhole_44 : decode b_Sh_splitWhole 44 = .ok (.iastore, 1) := by decide +kernel
theorem d_Sh_splitWhole_45 : decode b_Sh_splitWhole 45 = .ok (.lload 4, 2) := by decide +kernel
theorem d_Sh_splitWhole_47 : decode b_Sh_splitWhole 47 = .ok (.iload_n 3, 1) := by decide +kernel
theorem d_Sh_splitWhole_48 : decode b_Sh_splitWhole 48 = .ok (.i2l, 1) := by decide +kernel
theorem d_Sh_splitWhole_49 : decode b_Sh_splitWhole 49 = .ok (.ldiv, 1) := by decide +kernel
theorem d_Sh_splitWhole_50 : decode b_Sh_splitWhole 50 = .ok (.lstore 4, 2) := by decide +kernel
theorem d_Sh_splitWhole_52 : decode b_Sh_splitWhole 52 = .ok (.iinc 6 1, 3) := by decide +kernel
theorem d_Sh_splitWhole_55 : decode b_Sh_splitWhole 55 = .ok (.goto (-42), 3) := by decide +kernel
theorem d_Sh_splitWhole_58 : decode b_Sh_splitWhole 58 = .ok (.iload 6, 2) := by decide +kernel
theorem d_Sh_splitWhole_60 : decode b_Sh_splitWhole 60 = .ok (.ireturn, 1) := by decide +kernel
theorem d_Sh_formPlaces_0 : decode b_Sh_formPlaces 0 = .ok (.aload_n 2, 1) := by decide +kernel
theorem d_Sh_formPlaces_1 : decode b_Sh_formPlaces 1 = .ok (.bipush 6, 2) := by decide +kernel
theorem d_Sh_formPlaces_3 : decode b_Sh_formPlaces 3 = .ok (.invokevirtual 110, 3) := by decide +kernel
theorem d_Sh_formPlaces_6 : decode b_Sh_formPlaces 6 = .ok (.istore_n 3, 1) := by decide +kernel
theorem d_Sh_formPlaces_7 : decode b_Sh_formPlaces 7 = .ok (.aload_n 0, 1) := by decide +kernel
theorem d_Sh_formPlaces_8 : decode b_Sh_formPlaces 8 = .ok (.aload_n 2, 1) := by decide +kernel
theorem d_Sh_formPlaces_9 : decode b_Sh_formPlaces 9 = .ok (.aload_n 1, 1) := by decide +kernel
theorem d_Sh_formPlaces_10 : decode b_Sh_formPlaces 10 = .ok (.getfield 114, 3) := by decide +kernel
theorem d_Sh_formPlaces_13 : decode b_Sh_formPlaces 13 = .ok (.invokevirtual 87, 3) := by decide +kernel
theorem d_Sh_formPlaces_16 : decode b_Sh_formPlaces 16 = .ok (.putfield 34, 3) := by decide +kernel
theorem d_Sh_formPlaces_19 : decode b_Sh_formPlaces 19 = .ok (.aload_n 0, 1) := by decide +kernel
theorem d_Sh_formPlaces_20 : decode b_Sh_formPlaces 20 = .ok (.getfield 23, 3) := by decide +kernel
theorem d_Sh_formPlaces_23 : decode b_Sh_formPlaces 23 = .ok (.aload_n 1, 1) := by decide +kernel
theorem d_Sh_formPlaces_24 : decode b_Sh_formPlaces 24 = .ok (.invokevirtual 117, 3) := by decide +kernel
theorem d_Sh_formPlaces_27 : decode b_Sh_formPlaces 27 = .ok (.aload_n 0, 1) := by decide +kernel
theorem d_Sh_formPlaces_28 : decode b_Sh_formPlaces 28 = .ok (.getfield 23, 3) := by decide +kernel
theorem d_Sh_formPlaces_31 : decode b_Sh_formPlaces 31 = .ok (.bipush 19, 2) := by decide +kernel
theorem d_Sh_formPlaces_33 : decode b_Sh_formPlaces 33 = .ok (.iload_n 3, 1) := by decide +kernel
theorem d_Sh_formPlaces_34 : decode b_Sh_formPlaces 34 = .ok (.iadd, 1) := by decide +kernel
theorem d_Sh_formPlaces_35 : decode b_Sh_formPlaces 35 = .ok (.invokevirtual 121, 3) := by decide +kernel
theorem d_Sh_formPlaces_38 : decode b_Sh_formPlaces 38 = .ok (.aload_n 0, 1) := by decide +kernel
theorem d_Sh_formPlaces_39 : decode b_Sh_formPlaces 39 = .ok (.getfield 23, 3) := by decide +kernel
theorem d_Sh_formPlaces_42 : decode b_Sh_formPlaces 42 = .ok (.aload_n 0, 1) := by decide +kernel
theorem d_Sh_formPlaces_43 : decode b_Sh_formPlaces 43 = .ok (.getfield 16, 3) := by decide +kernel
theorem d_Sh_formPlaces_46 : decode b_Sh_formPlaces 46 = .ok (.bipush 19, 2) := by decide +kernel
theorem d_Sh_formPlaces_48 : decode b_Sh_formPlaces 48 = .ok (.iload_n 3, 1) := by decide +kernel
theorem d_Sh_formPlaces_49 : decode b_Sh_formPlaces 49 = .ok (.aload_n 2, 1) := by decide +kernel
theorem d_Sh_formPlaces_50 : decode b_Sh_formPlaces 50 = .ok (.getfield 91, 3) := by decide +kernel
theorem d_Sh_formPlaces_53 : decode b_Sh_formPlaces 53 = .ok (.invokevirtual 124, 3) := by decide +kernel
theorem d_Sh_formPlaces_56 : decode b_Sh_formPlaces 56 = .ok (.return_, 1) := by decide +kernel
theorem d_Sh_formExponent_0 : decode b_Sh_formExponent 0 = .ok (.aload_n 2, 1) := by decide +kernel
theorem d_Sh_formExponent_1 : decode b_Sh_formExponent 1 = .ok (.bipush 6, 2) := by decide +kernel
theorem d_Sh_formExponent_3 : decode b_Sh_formExponent 3 = .ok (.invokevirtual 110, 3) := by decide +kernel
theorem d_Sh_formExponent_6 : decode b_Sh_formExponent 6 = .ok (.istore_n 3, 1) := by decide +kernel
theorem d_Sh_formExponent_7 : decode b_Sh_formExponent 7 = .ok (.aload_n 0, 1) := by decide +kernel
theorem d_Sh_formExponent_8 : decode b_Sh_formExponent 8 = .ok (.aload_n 2, 1) := by decide +kernel
theorem d_Sh_formExponent_9 : decode b_Sh_formExponent 9 = .ok (.aload_n 1, 1) := by decide +kernel
theorem d_Sh_formExponent_10 : decode b_Sh_formExponent 10 = .ok (.getfield 114, 3) := by decide +kernel
theorem d_Sh_formExponent_13 : decode b_Sh_formExponent 13 = .ok (.invokevirtual 87, 3) := by decide +kernel
theorem d_Sh_formExponent_16 : decode b_Sh_formExponent 16 = .ok (.putfield 34, 3) := by decide +kernel
theorem d_Sh_formExponent_19 : decode b_Sh_formExponent 19 = .ok (.aload_n 0, 1) := by decide +kernel
theorem d_Sh_formExponent_20 : decode b_Sh_formExponent 20 = .ok (.getfield 23, 3) := by decide +kernel
theorem d_Sh_formExponent_23 : decode b_Sh_formExponent 23 = .ok (.aload_n 1, 1) := by decide +kernel
theorem d_Sh_formExponent_24 : decode b_Sh_formExponent 24 = .ok (.invokevirtual 117, 3) := by decide +kernel
theorem d_Sh_formExponent_27 : decode b_Sh_formExponent 27 = .ok (.aload_n 0, 1) := by decide +kernel
theorem d_Sh_formExponent_28 : decode b_Sh_formExponent 28 = .ok (.getfield 23, 3) := by decide +kernel
theorem d_Sh_formExponent_31 : decode b_Sh_formExponent 31 = .ok (.aload_n 0, 1) := by decide +kernel
theorem d_Sh_formExponent_32 : decode b_Sh_formExponent 32 = .ok (.getfield 23, 3) := by decide +kernel
theorem d_Sh_formExponent_35 : decode b_Sh_formExponent 35 = .ok (.invokevirtual 128, 3) := by decide +kernel
theorem d_Sh_formExponent_38 : decode b_Sh_formExponent 38 = .ok (.iconst 1, 1) := by decide +kernel
theorem d_Sh_formExponent_39 : decode b_Sh_formExponent 39 = .ok (.iadd, 1) := by decide +kernel
theorem d_Sh_formExponent_40 : decode b_Sh_formExponent 40 = .ok (.iload_n 3, 1) := by decide +kernel
theorem d_Sh_formExponent_41 : decode b_Sh_formExponent 41 = .ok (.iadd, 1) := by decide +kernel
theorem d_Sh_formExponent_42 : decode b_Sh_formExponent 42 = .ok (.invokevirtual 121, 3) := by decide +kernel
theorem d_Sh_formExponent_45 : decode b_Sh_formExponent 45 = .ok (.aload_n 0, 1) := by decide +kernel
theorem d_Sh_formExponent_46 : decode b_Sh_formExponent 46 = .ok (.getfield 23, 3) := by decide +kernel
theorem d_Sh_formExponent_49 : decode b_Sh_formExponent 49 = .ok (.aload_n 0, 1) := by decide +kernel
theorem d_Sh_formExponent_50 : decode b_Sh_formExponent 50 = .ok (.getfield 16, 3) := by decide +kernel
theorem d_Sh_formExponent_53 : decode b_Sh_formExponent 53 = .ok (.aload_n 0, 1) := by decide +kernel
theorem d_Sh_formExponent_54 : decode b_Sh_formExponent 54 = .ok (.getfield 23, 3) := by decide +kernel
theorem d_Sh_formExponent_57 : decode b_Sh_formExponent 57 = .ok (.invokevirtual 128, 3) := by decide +kernel
theorem d_Sh_formExponent_60 : decode b_Sh_formExponent 60 = .ok (.iconst 1, 1) := by decide +kernel
theorem d_Sh_formExponent_61 : decode b_Sh_formExponent 61 = .ok (.iadd, 1) := by decide +kernel
theorem d_Sh_formExponent_62 : decode b_Sh_formExponent 62 = .ok (.iload_n 3, 1) := by decide +kernel
theorem d_Sh_formExponent_63 : decode b_Sh_formExponent 63 = .ok (.aload_n 2, 1) := by decide +kernel
theorem d_Sh_formExponent_64 : decode b_Sh_formExponent 64 = .ok (.getfield 91, 3) := by decide +kernel
theorem d_Sh_formExponent_67 : decode b_Sh_formExponent 67 = .ok (.invokevirtual 124, 3) := by decide +kernel
theorem d_Sh_formExponent_70 : decode b_Sh_formExponent 70 = .ok (.aload_n 0, 1) := by decide +kernel
theorem d_Sh_formExponent_71 : decode b_Sh_formExponent 71 = .ok (.aload_n 2, 1) := by decide +kernel
theorem d_Sh_formExponent_72 : decode b_Sh_formExponent 72 = .ok (.getfield 41, 3) := by decide +kernel
theorem d_Sh_formExponent_75 : decode b_Sh_formExponent 75 = .ok (.aload_n 0, 1) := by decide +kernel
theorem d_Sh_formExponent_76 : decode b_Sh_formExponent 76 = .ok (.getfield 23, 3) := by decide +kernel
theorem d_Sh_formExponent_79 : decode b_Sh_formExponent 79 = .ok (.invokevirtual 131, 3) := by decide +kernel
theorem d_Sh_formExponent_82 : decode b_Sh_formExponent 82 = .ok (.invokevirtual 134, 3) := by decide +kernel
theorem d_Sh_formExponent_85 : decode b_Sh_formExponent 85 = .ok (.return_, 1) := by decide +kernel
theorem d_Sh_putExponent_0 : decode b_Sh_putExponent 0 = .ok (.iload_n 2, 1) := by decide +kernel
theorem d_Sh_putExponent_1 : decode b_Sh_putExponent 1 = .ok (.invokestatic 137, 3) := by decide +kernel
theorem d_Sh_putExponent_4 : decode b_Sh_putExponent 4 = .ok (.istore_n 3, 1) := by decide +kernel
theorem d_Sh_putExponent_5 : decode b_Sh_putExponent 5 = .ok (.aload_n 0, 1) := by decide +kernel
theorem d_Sh_putExponent_6 : decode b_Sh_putExponent 6 = .ok (.getfield 16, 3) := by decide +kernel
theorem d_Sh_putExponent_9 : decode b_Sh_putExponent 9 = .ok (.iload_n 1, 1) := by decide +kernel
theorem d_Sh_putExponent_10 : decode b_Sh_putExponent 10 = .ok (.invokevirtual 69, 3) := by decide +kernel
theorem d_Sh_putExponent_13 : decode b_Sh_putExponent 13 = .ok (.aload_n 0, 1) := by decide +kernel
theorem d_Sh_putExponent_14 : decode b_Sh_putExponent 14 = .ok (.getfield 16, 3) := by decide +kernel
theorem d_Sh_putExponent_17 : decode b_Sh_putExponent 17 = .ok (.iload_n 2, 1) := by decide +kernel
theorem d_Sh_putExponent_18 : decode b_Sh_putExponent 18 = .ok (.ifCond .ge 8, 3) := by decide +kernel
theorem d_Sh_putExponent_21 : decode b_Sh_putExponent 21 = .ok (.bipush 45, 2) := by decide +kernel
theorem d_Sh_putExponent_23 : decode b_Sh_putExponent 23 = .ok (.goto 5, 3) := by decide +kernel
theorem d_Sh_putExponent_26 : decode b_Sh_putExponent 26 = .ok (.bipush 43, 2) := by decide +kernel
theorem d_Sh_putExponent_28 : decode b_Sh_putExponent 28 = .ok (.invokevirtual 69, 3) := by decide +kernel
theorem d_Sh_putExponent_31 : decode b_Sh_putExponent 31 = .ok (.aload_n 0, 1) := by decide +kernel
theorem d_Sh_putExponent_32 : decode b_Sh_putExponent 32 = .ok (.getfield 16, 3) := by decide +kernel
theorem d_Sh_putExponent_35 : decode b_Sh_putExponent 35 = .ok (.bipush 48, 2) := by decide +kernel
theorem d_Sh_putExponent_37 : decode b_Sh_putExponent 37 = .ok (.iload_n 3, 1) := by decide +kernel
theorem d_Sh_putExponent_38 : decode b_Sh_putExponent 38 = .ok (.bipush 10, 2) := by decide +kernel
theorem d_Sh_putExponent_40 : decode b_Sh_putExponent 40 = .ok (.idiv, 1) := by decide +kernel
theorem d_Sh_putExponent_41 : decode b_Sh_putExponent 41 = .ok (.iadd, 1) := by decide +kernel
theorem d_Sh_putExponent_42 : decode b_Sh_putExponent 42 = .ok (.invokevirtual 69, 3) := by decide +kernel
theorem d_Sh_putExponent_45 : decode b_Sh_putExponent 45 = .ok (.aload_n 0, 1) := by decide +kernel
theorem d_Sh_putExponent_46 : decode b_Sh_putExponent 46 = .ok (.getfield 16, 3) := by decide +kernel
theorem d_Sh_putExponent_49 : decode b_Sh_putExponent 49 = .ok (.bipush 48, 2) := by decide +kernel
theorem d_Sh_putExponent_51 : decode b_Sh_putExponent 51 = .ok (.iload_n 3, 1) := by decide +kernel
theorem d_Sh_putExponent_52 : decode b_Sh_putExponent 52 = .ok (.bipush 10, 2) := by decide +kernel
theorem d_Sh_putExponent_54 : decode b_Sh_putExponent 54 = .ok (.irem, 1) := by decide +kernel
theorem d_Sh_putExponent_55 : decode b_Sh_putExponent 55 = .ok (.iadd, 1) := by decide +kernel
theorem d_Sh_putExponent_56 : decode b_Sh_putExponent 56 = .ok (.invokevirtual 69, 3) := by decide +kernel
theorem d_Sh_putExponent_59 : decode b_Sh_putExponent 59 = .ok (.return_, 1) := by decide +kernel
theorem d_Sh_formShorter_0 : decode b_Sh_formShorter 0 = .ok (.iconst 1, 1) := by decide +kernel
theorem d_Sh_formShorter_1 : decode b_Sh_formShorter 1 = .ok (.aload_n 2, 1) := by decide +kernel
theorem d_Sh_formShorter_2 : decode b_Sh_formShorter 2 = .ok (.bipush 6, 2) := by decide +kernel
theorem d_Sh_formShorter_4 : decode b_Sh_formShorter 4 = .ok (.invokevirtual 110, 3) := by decide +kernel
theorem d_Sh_formShorter_7 : decode b_Sh_formShorter 7 = .ok (.invokestatic 142, 3) := by decide +kernel
theorem d_Sh_formShorter_10 : decode b_Sh_formShorter 10 = .ok (.istore_n 3, 1) := by decide +kernel
theorem d_Sh_formShorter_11 : decode b_Sh_formShorter 11 = .ok (.aload_n 0, 1) := by decide +kernel
theorem d_Sh_formShorter_12 : decode b_Sh_formShorter 12 = .ok (.aload_n 2, 1) := by decide +kernel
theorem d_Sh_formShorter_13 : decode b_Sh_formShorter 13 = .ok (.aload_n 1, 1) := by decide +kernel
theorem d_Sh_formShorter_14 : decode b_Sh_formShorter 14 = .ok (.getfield 114, 3) := by decide +kernel
theorem d_Sh_formShorter_17 : decode b_Sh_formShorter 17 = .ok (.invokevirtual 87, 3) := by decide +kernel
theorem d_Sh_formShorter_20 : decode b_Sh_formShorter 20 = .ok (.putfield 34, 3) := by decide +kernel
theorem d_Sh_formShorter_23 : decode b_Sh_formShorter 23 = .ok (.aload_n 0, 1) := by decide +kernel
theorem d_Sh_formShorter_24 : decode b_Sh_formShorter 24 = .ok (.getfield 23, 3) := by decide +kernel
theorem d_Sh_formShorter_27 : decode b_Sh_formShorter 27 = .ok (.aload_n 1, 1) := by decide +kernel
theorem d_Sh_formShorter_28 : decode b_Sh_formShorter 28 = .ok (.invokevirtual 117, 3) := by decide +kernel
theorem d_Sh_formShorter_31 : decode b_Sh_formShorter 31 = .ok (.aload_n 0, 1) := by decide +kernel
theorem d_Sh_formShorter_32 : decode b_Sh_formShorter 32 = .ok (.getfield 23, 3) := by decide +kernel
theorem d_Sh_formShorter_35 : decode b_Sh_formShorter 35 = .ok (.aload_n 0, 1) := by decide +kernel
theorem d_Sh_formShorter_36 : decode b_Sh_formShorter 36 = .ok (.getfield 23, 3) := by decide +kernel
theorem d_Sh_formShorter_39 : decode b_Sh_formShorter 39 = .ok (.invokevirtual 128, 3) := by decide +kernel
theorem d_Sh_formShorter_42 : decode b_Sh_formShorter 42 = .ok (.iload_n 3, 1) := by decide +kernel
theorem d_Sh_formShorter_43 : decode b_Sh_formShorter 43 = .ok (.iadd, 1) := by decide +kernel
theorem d_Sh_formShorter_44 : decode b_Sh_formShorter 44 = .ok (.invokevirtual 121, 3) := by decide +kernel
theorem d_Sh_formShorter_47 : decode b_Sh_formShorter 47 = .ok (.aload_n 0, 1) := by decide +kernel
theorem d_Sh_formShorter_48 : decode b_Sh_formShorter 48 = .ok (.getfield 23, 3) := by decide +kernel
theorem d_Sh_formShorter_51 : decode b_Sh_formShorter 51 = .ok (.invokevirtual 131, 3) := by decide +kernel
theorem d_Sh_formShorter_54 : decode b_Sh_formShorter 54 = .ok (.istore 4, 2) := by decide +kernel
theorem d_Sh_formShorter_56 : decode b_Sh_formShorter 56 = .ok (.iload 4, 2) := by decide +kernel
theorem d_Sh_formShorter_58 : decode b_Sh_formShorter 58 = .ok (.bipush (-4), 2) := by decide +kernel
theorem d_Sh_formShorter_60 : decode b_Sh_formShorter 60 = .ok (.if_icmp .lt 9, 3) := by decide +kernel
theorem d_Sh_formShorter_63 : decode b_Sh_formShorter 63 = .ok (.iload 4, 2) := by decide +kernel
theorem d_Sh_formShorter_65 : decode b_Sh_formShorter 65 = .ok (.iload_n 3, 1) := by decide +kernel
theorem d_Sh_formShorter_66 : decode b_Sh_formShorter 66 = .ok (.if_icmp .lt 7, 3) := by decide +kernel
theorem d_Sh_formShorter_69 : decode b_Sh_formShorter 69 = .ok (.iconst 1, 1) := by decide +kernel
theorem d_Sh_formShorter_70 : decode b_Sh_formShorter 70 = .ok (.goto 4, 3) := by decide +kernel
theorem d_Sh_formShorter_73 : decode b_Sh_formShorter 73 = .ok (.iconst 0, 1) := by decide +kernel
theorem d_Sh_formShorter_74 : decode b_Sh_formShorter 74 = .ok (.istore 5, 2) := by decide +kernel
theorem d_Sh_formShorter_76 : decode b_Sh_formShorter 76 = .ok (.iload 5, 2) := by decide +kernel
theorem d_Sh_formShorter_78 : decode b_Sh_formShorter 78 = .ok (.ifCond .eq 9, 3) := by decide +kernel
theorem d_Sh_formShorter_81 : decode b_Sh_formShorter 81 = .ok (.iload_n 3, 1) := by decide +kernel
theorem d_Sh_formShorter_82 : decode b_Sh_formShorter 82 = .ok (.iconst 1, 1) := by decide +kernel
theorem d_Sh_formShorter_83 : decode b_Sh_formShorter 83 = .ok (.isub, 1) := by decide +kernel
theorem d_Sh_formShorter_84 : decode b_Sh_formShorter 84 = .ok (.goto 9, 3) := by decide +kernel
theorem d_Sh_formShorter_87 : decode b_Sh_formShorter 87 = .ok (.iload_n 3, 1) := by decide +kernel
theorem d_Sh_formShorter_88 : decode b_Sh_formShorter 88 = .ok (.iconst 1, 1) := by decide +kernel
theorem d_Sh_formShorter_89 : decode b_Sh_formShorter 89 = .ok (.isub, 1) := by decide +kernel
theorem d_Sh_formShorter_90 : decode b_Sh_formShorter 90 = .ok (.iload 4, 2) := by decide +kernel
theorem d_Sh_formShorter_92 : decode b_Sh_formShorter 92 = .ok (.isub, 1) := by decide +kernel
theorem d_Sh_formShorter_93 : decode b_Sh_formShorter 93 = .ok (.istore 6, 2) := by decide +kernel
theorem d_Sh_formShorter_95 : decode b_Sh_formShorter 95 = .ok (.iload 5, 2) := by decide +kernel
theorem d_Sh_formShorter_97 : decode b_Sh_formShorter 97 = .ok (.ifCond .eq 15, 3) := by decide +kernel
theorem d_Sh_formShorter_100 : decode b_Sh_formShorter 100 = .ok (.aload_n 0, 1) := by decide +kernel
theorem d_Sh_formShorter_101 : decode b_Sh_formShorter 101 = .ok (.getfield 23, 3) := by decide +kernel
theorem d_Sh_formShorter_104 : decode b_Sh_formShorter 104 = .ok (.invokevirtual 128, 3) := by decide +kernel
theorem d_Sh_formShorter_107 : decode b_Sh_formShorter 107 = .ok (.iconst 1, 1) := by decide +kernel
theorem d_Sh_formShorter_108 : decode b_Sh_formShorter 108 = .ok (.iadd, 1) := by decide +kernel
theorem d_Sh_formShorter_109 : decode b_Sh_formShorter 109 = .ok (.goto 5, 3) := by decide +kernel
theorem d_Sh_formShorter_112 : decode b_Sh_formShorter 112 = .ok (.bipush 19, 2) := by decide +kernel
theorem d_Sh_formShorter_114 : decode b_Sh_formShorter 114 = .ok (.istore 7, 2) := by decide +kernel
theorem d_Sh_formShorter_116 : decode b_Sh_formShorter 116 = .ok (.aload_n 0, 1) := by decide +kernel
theorem d_Sh_formShorter_117 : decode b_Sh_formShorter 117 = .ok (.getfield 23, 3) := by decide +kernel
theorem d_Sh_formShorter_120 : decode b_Sh_formShorter 120 = .ok (.aload_n 0, 1) := by decide +kernel
theorem d_Sh_formShorter_121 : decode b_Sh_formShorter 121 = .ok (.getfield 16, 3) := by decide +kernel
theorem d_Sh_formShorter_124 : decode b_Sh_formShorter 124 = .ok (.iload 7, 2) := by decide +kernel
theorem d_Sh_formShorter_126 : decode b_Sh_formShorter 126 = .ok (.iload 6, 2) := by decide +kernel
theorem d_Sh_formShorter_128 : decode b_Sh_formShorter 128 = .ok (.aload_n 2, 1) := by decide +kernel
theorem d_Sh_formShorter_129 : decode b_Sh_formShorter 129 = .ok (.getfield 91, 3) := by decide +kernel
theorem d_Sh_formShorter_132 : decode b_Sh_formShorter 132 = .ok (.invokevirtual 124, 3) := by decide +kernel
theorem d_Sh_formShorter_135 : decode b_Sh_formShorter 135 = .ok (.aload_n 2, 1) := by decide +kernel
theorem d_Sh_formShorter_136 : decode b_Sh_formShorter 136 = .ok (.getfield 91, 3) := by decide +kernel
theorem d_Sh_formShorter_139 : decode b_Sh_formShorter 139 = .ok (.ifCond .ne 12, 3) := by decide +kernel
theorem d_Sh_formShorter_142 : decode b_Sh_formShorter 142 = .ok (.aload_n 0, 1) := by decide +kernel
theorem d_Sh_formShorter_143 : decode b_Sh_formShorter 143 = .ok (.getfield 16, 3) := by decide +kernel
theorem d_Sh_formShorter_146 : decode b_Sh_formShorter 146 = .ok (.iload 6, 2) := by decide +kernel
theorem d_Sh_formShorter_148 : decode b_Sh_formShorter 148 = .ok (.invokevirtual 146, 3) := by decide +kernel
theorem d_Sh_formShorter_151 : decode b_Sh_formShorter 151 = .ok (.iload 5, 2) := by decide +kernel
theorem d_Sh_formShorter_153 : decode b_Sh_formShorter 153 = .ok (.ifCond .eq 25, 3) := by decide +kernel
theorem d_Sh_formShorter_156 : decode b_Sh_formShorter 156 = .ok (.aload_n 0, 1) := by decide +kernel
theorem d_Sh_formShorter_157 : decode b_Sh_formShorter 157 = .ok (.aload_n 2, 1) := by decide +kernel
theorem d_Sh_formShorter_158 : decode b_Sh_formShorter 158 = .ok (.getfield 41, 3) := by decide +kernel
theorem d_Sh_formShorter_161 : decode b_Sh_formShorter 161 = .ok (.bipush 71, 2) := by decide +kernel
theorem d_Sh_formShorter_163 : decode b_Sh_formShorter 163 = .ok (.if_icmp .ne 8, 3) := by decide +kernel
theorem d_Sh_formShorter_166 : decode b_Sh_formShorter 166 = .ok (.bipush 69, 2) := by decide +kernel
theorem d_Sh_formShorter_168 : decode b_Sh_formShorter 168 = .ok (.goto 5, 3) := by decide +kernel
theorem d_Sh_formShorter_171 : decode b_Sh_formShorter 171 = .ok (.bipush 101, 2) := by decide +kernel
theorem d_Sh_formShorter_173 : decode b_Sh_formShorter 173 = .ok (.iload 4, 2) := by decide +kernel
theorem d_Sh_formShorter_175 : decode b_Sh_formShorter 175 = .ok (.invokevirtual 134, 3) := by decide +kernel
theorem d_Sh_formShorter_178 : decode b_Sh_formShorter 178 = .ok (.return_, 1) := by decide +kernel
theorem d_Sh_formQuoted_0 : decode b_Sh_formQuoted 0 = .ok (.aload_n 1, 1) := by decide +kernel
theorem d_Sh_formQuoted_1 : decode b_Sh_formQuoted 1 = .ok (.aload_n 2, 1) := by decide +kernel
theorem d_Sh_formQuoted_2 : decode b_Sh_formQuoted 2 = .ok (.invokestatic 75, 3) := by decide +kernel
theorem d_Sh_formQuoted_5 : decode b_Sh_formQuoted 5 = .ok (.istore_n 3, 1) := by decide +kernel
theorem d_Sh_formQuoted_6 : decode b_Sh_formQuoted 6 = .ok (.aload_n 0, 1) := by decide +kernel
theorem d_Sh_formQuoted_7 : decode b_Sh_formQuoted 7 = .ok (.getfield 16, 3) := by decide +kernel
theorem d_Sh_formQuoted_10 : decode b_Sh_formQuoted 10 = .ok (.bipush 34, 2) := by decide +kernel
theorem d_Sh_formQuoted_12 : decode b_Sh_formQuoted 12 = .ok (.invokevirtual 69, 3) := by decide +kernel
theorem d_Sh_formQuoted_15 : decode b_Sh_formQuoted 15 = .ok (.iconst 0, 1) := by decide +kernel
theorem d_Sh_formQuoted_16 : decode b_Sh_formQuoted 16 = .ok (.istore 4, 2) := by decide +kernel
theorem d_Sh_formQuoted_18 : decode b_Sh_formQuoted 18 = .ok (.iload 4, 2) := by decide +kernel
theorem d_Sh_formQuoted_20 : decode b_Sh_formQuoted 20 = .ok (.iload_n 3, 1) := by decide +kernel
theorem d_Sh_formQuoted_21 : decode b_Sh_formQuoted 21 = .ok (.if_icmp .ge 52, 3) := by decide +kernel
theorem d_Sh_formQuoted_24 : decode b_Sh_formQuoted 24 = .ok (.aload_n 1, 1) := by decide +kernel
theorem d_Sh_formQuoted_25 : decode b_Sh_formQuoted 25 = .ok (.getfield 72, 3) := by decide +kernel
theorem d_Sh_formQuoted_28 : decode b_Sh_formQuoted 28 = .ok (.iload 4, 2) := by decide +kernel
theorem d_Sh_formQuoted_30 : decode b_Sh_formQuoted 30 = .ok (.invokevirtual 155, 3) := by decide +kernel
theorem d_Sh_formQuoted_33 : decode b_Sh_formQuoted 33 = .ok (.istore 5, 2) := by decide +kernel
theorem d_Sh_formQuoted_35 : decode b_Sh_formQuoted 35 = .ok (.iload 5, 2) := by decide +kernel
theorem d_Sh_formQuoted_37 : decode b_Sh_formQuoted 37 = .ok (.bipush 34, 2) := by decide +kernel
theorem d_Sh_formQuoted_39 : decode b_Sh_formQuoted 39 = .ok (.if_icmp .eq 10, 3) := by decide +kernel
theorem d_Sh_formQuoted_42 : decode b_Sh_formQuoted 42 = .ok (.iload 5, 2) := by decide +kernel
theorem d_Sh_formQuoted_44 : decode b_Sh_formQuoted 44 = .ok (.bipush 92, 2) := by decide +kernel
theorem d_Sh_formQuoted_46 : decode b_Sh_formQuoted 46 = .ok (.if_icmp .ne 12, 3) := by decide +kernel
theorem d_Sh_formQuoted_49 : decode b_Sh_formQuoted 49 = .ok (.aload_n 0, 1) := by decide +kernel
theorem d_Sh_formQuoted_50 : decode b_Sh_formQuoted 50 = .ok (.getfield 16, 3) := by decide +kernel
theorem d_Sh_formQuoted_53 : decode b_Sh_formQuoted 53 = .ok (.bipush 92, 2) := by decide +kernel
theorem d_Sh_formQuoted_55 : decode b_Sh_formQuoted 55 = .ok (.invokevirtual 69, 3) := by decide +kernel
theorem d_Sh_formQuoted_58 : decode b_Sh_formQuoted 58 = .ok (.aload_n 0, 1) := by decide +kernel
theorem d_Sh_formQuoted_59 : decode b_Sh_formQuoted 59 = .ok (.getfield 16, 3) := by decide +kernel
theorem d_Sh_formQuoted_62 : decode b_Sh_formQuoted 62 = .ok (.iload 5, 2) := by decide +kernel
theorem d_Sh_formQuoted_64 : decode b_Sh_formQuoted 64 = .ok (.invokevirtual 69, 3) := by decide +kernel
theorem d_Sh_formQuoted_67 : decode b_Sh_formQuoted 67 = .ok (.iinc 4 1, 3) := by decide +kernel
theorem d_Sh_formQuoted_70 : decode b_Sh_formQuoted 70 = .ok (.goto (-52), 3) := by decide +kernel
theorem d_Sh_formQuoted_73 : decode b_Sh_formQuoted 73 = .ok (.aload_n 0, 1) := by decide +kernel
theorem d_Sh_formQuoted_74 : decode b_Sh_formQuoted 74 = .ok (.getfield 16, 3) := by decide +kernel
theorem d_Sh_formQuoted_77 : decode b_Sh_formQuoted 77 = .ok (.bipush 34, 2) := by decide +kernel
theorem d_Sh_formQuoted_79 : decode b_Sh_formQuoted 79 = .ok (.invokevirtual 69, 3) := by decide +kernel
theorem d_Sh_formQuoted_82 : decode b_Sh_formQuoted 82 = .ok (.return_, 1) := by decide +kernel
theorem d_Sh_cutLength_0 : decode b_Sh_cutLength 0 = .ok (.aload_n 0, 1) := by decide +kernel
theorem d_Sh_cutLength_1 : decode b_Sh_cutLength 1 = .ok (.getfield 72, 3) := by decide +kernel
theorem d_Sh_cutLength_4 : decode b_Sh_cutLength 4 = .ok (.invokevirtual 149, 3) := by decide +kernel
theorem d_Sh_cutLength_7 : decode b_Sh_cutLength 7 = .ok (.aload_n 1, 1) := by decide +kernel
theorem d_Sh_cutLength_8 : decode b_Sh_cutLength 8 = .ok (.bipush 60, 2) := by decide +kernel
theorem d_Sh_cutLength_10 : decode b_Sh_cutLength 10 = .ok (.invokevirtual 110, 3) := by decide +kernel
theorem d_Sh_cutLength_13 : decode b_Sh_cutLength 13 = .ok (.invokestatic 152, 3) := by decide +kernel
theorem d_Sh_cutLength_16 : decode b_Sh_cutLength 16 = .ok (.ireturn, 1) := by decide +kernel
theorem d_Sh_putInto_0 : decode b_Sh_putInto 0 = .ok (.aload_n 0, 1) := by decide +kernel
theorem d_Sh_putInto_1 : decode b_Sh_putInto 1 = .ok (.getfield 16, 3) := by decide +kernel
theorem d_Sh_putInto_4 : decode b_Sh_putInto 4 = .ok (.invokevirtual 149, 3) := by decide +kernel
theorem d_Sh_putInto_7 : decode b_Sh_putInto 7 = .ok (.aload_n 0, 1) := by decide +kernel
theorem d_Sh_putInto_8 : decode b_Sh_putInto 8 = .ok (.getfield 34, 3) := by decide +kernel
theorem d_Sh_putInto_11 : decode b_Sh_putInto 11 = .ok (.iconst (-1), 1) := by decide +kernel
theorem d_Sh_putInto_12 : decode b_Sh_putInto 12 = .ok (.if_icmp .ne 7, 3) := by decide +kernel
theorem d_Sh_putInto_15 : decode b_Sh_putInto 15 = .ok (.iconst 0, 1) := by decide +kernel
theorem d_Sh_putInto_16 : decode b_Sh_putInto 16 = .ok (.goto 4, 3) := by decide +kernel
theorem d_Sh_putInto_19 : decode b_Sh_putInto 19 = .ok (.iconst 1, 1) := by decide +kernel
theorem d_Sh_putInto_20 : decode b_Sh_putInto 20 = .ok (.iadd, 1) := by decide +kernel
theorem d_Sh_putInto_21 : decode b_Sh_putInto 21 = .ok (.aload_n 0, 1) := by decide +kernel
theorem d_Sh_putInto_22 : decode b_Sh_putInto 22 = .ok (.getfield 38, 3) := by decide +kernel
theorem d_Sh_putInto_25 : decode b_Sh_putInto 25 = .ok (.iconst (-1), 1) := by decide +kernel
theorem d_Sh_putInto_26 : decode b_Sh_putInto 26 = .ok (.if_icmp .ne 7, 3) := by decide +kernel
theorem d_Sh_putInto_29 : decode b_Sh_putInto 29 = .ok (.iconst 0, 1) := by decide +kernel
theorem d_Sh_putInto_30 : decode b_Sh_putInto 30 = .ok (.goto 4, 3) := by decide +kernel
theorem d_Sh_putInto_33 : decode b_Sh_putInto 33 = .ok (.iconst 2, 1) := by decide +kernel
theorem d_Sh_putInto_34 : decode b_Sh_putInto 34 = .ok (.iadd, 1) := by decide +kernel
theorem d_Sh_putInto_35 : decode b_Sh_putInto 35 = .ok (.istore_n 3, 1) := by decide +kernel
theorem d_Sh_putInto_36 : decode b_Sh_putInto 36 = .ok (.iconst 0, 1) := by decide +kernel
theorem d_Sh_putInto_37 : decode b_Sh_putInto 37 = .ok (.aload_n 2, 1) := by decide +kernel
theorem d_Sh_putInto_38 : decode b_Sh_putInto 38 = .ok (.getfield 158, 3) := by decide +kernel
theorem d_Sh_putInto_41 : decode b_Sh_putInto 41 = .ok (.iload_n 3, 1) := by decide +kernel
theorem d_Sh_putInto_42 : decode b_Sh_putInto 42 = .ok (.isub, 1) := by decide +kernel
theorem d_Sh_putInto_43 : decode b_Sh_putInto 43 = .ok (.invokestatic 142, 3) := by decide +kernel
theorem d_Sh_putInto_46 : decode b_Sh_putInto 46 = .ok (.istore 4, 2) := by decide +kernel
theorem d_Sh_putInto_48 : decode b_Sh_putInto 48 = .ok (.aload_n 1, 1) := by decide +kernel
theorem d_Sh_putInto_49 : decode b_Sh_putInto 49 = .ok (.iload_n 3, 1) := by decide +kernel
theorem d_Sh_putInto_50 : decode b_Sh_putInto 50 = .ok (.iload 4, 2) := by decide +kernel
theorem d_Sh_putInto_52 : decode b_Sh_putInto 52 = .ok (.iadd, 1) := by decide +kernel
theorem d_Sh_putInto_53 : decode b_Sh_putInto 53 = .ok (.invokevirtual 161, 3) := by decide +kernel
theorem d_Sh_putInto_56 : decode b_Sh_putInto 56 = .ok (.ifCond .ne 5, 3) := by decide +kernel
theorem d_Sh_putInto_59 : decode b_Sh_putInto 59 = .ok (.iconst 0, 1) := by decide +kernel
theorem d_Sh_putInto_60 : decode b_Sh_putInto 60 = .ok (.ireturn, 1) := by decide +kernel
theorem d_Sh_putInto_61 : decode b_Sh_putInto 61 = .ok (.aload_n 2, 1) := by decide +kernel
theorem d_Sh_putInto_62 : decode b_Sh_putInto 62 = .ok (.invokevirtual 165, 3) := by decide +kernel
theorem d_Sh_putInto_65 : decode b_Sh_putInto 65 = .ok (.istore 5, 2) := by decide +kernel
theorem d_Sh_putInto_67 : decode b_Sh_putInto 67 = .ok (.iload 5, 2) := by decide +kernel
theorem d_Sh_putInto_69 : decode b_Sh_putInto 69 = .ok (.ifCond .ne 18, 3) := by decide +kernel
theorem d_Sh_putInto_72 : decode b_Sh_putInto 72 = .ok (.aload_n 2, 1) := by decide +kernel
theorem d_Sh_putInto_73 : decode b_Sh_putInto 73 = .ok (.getfield 169, 3) := by decide +kernel
theorem d_Sh_putInto_76 : decode b_Sh_putInto 76 = .ok (.ifCond .ne 11, 3) := by decide +kernel
theorem d_Sh_putInto_79 : decode b_Sh_putInto 79 = .ok (.aload_n 1, 1) := by decide +kernel
theorem d_Sh_putInto_80 : decode b_Sh_putInto 80 = .ok (.bipush 32, 2) := by decide +kernel
theorem d_Sh_putInto_82 : decode b_Sh_putInto 82 = .ok (.iload 4, 2) := by decide +kernel
theorem d_Sh_putInto_84 : decode b_Sh_putInto 84 = .ok (.invokevirtual 106, 3) := by decide +kernel
theorem d_Sh_putInto_87 : decode b_Sh_putInto 87 = .ok (.aload_n 0, 1) := by decide +kernel
theorem d_Sh_putInto_88 : decode b_Sh_putInto 88 = .ok (.getfield 34, 3) := by decide +kernel
theorem d_Sh_putInto_91 : decode b_Sh_putInto 91 = .ok (.iconst (-1), 1) := by decide +kernel
theorem d_Sh_putInto_92 : decode b_Sh_putInto 92 = .ok (.if_icmp .eq 11, 3) := by decide +kernel
theorem d_Sh_putInto_95 : decode b_Sh_putInto 95 = .ok (.aload_n 1, 1) := by decide +kernel
theorem d_Sh_putInto_96 : decode b_Sh_putInto 96 = .ok (.aload_n 0, 1) := by decide +kernel
theorem d_Sh_putInto_97 : decode b_Sh_putInto 97 = .ok (.getfield 34, 3) := by decide +kernel
theorem d_Sh_putInto_100 : decode b_Sh_putInto 100 = .ok (.invokevirtual 69, 3) := by decide +kernel
theorem d_Sh_putInto_103 : decode b_Sh_putInto 103 = .ok (.aload_n 0, 1) := by decide +kernel
theorem d_Sh_putInto_104 : decode b_Sh_putInto 104 = .ok (.getfield 38, 3) := by decide +kernel
theorem d_Sh_putInto_107 : decode b_Sh_putInto 107 = .ok (.iconst (-1), 1) := by decide +kernel
theorem d_Sh_putInto_108 : decode b_Sh_putInto 108 = .ok (.if_icmp .eq 17, 3) := by decide +kernel
theorem d_Sh_putInto_111 : decode b_Sh_putInto 111 = .ok (.aload_n 1, 1) := by decide +kernel
theorem d_Sh_putInto_112 : decode b_Sh_putInto 112 = .ok (.bipush 48, 2) := by decide +kernel
theorem d_Sh_putInto_114 : decode b_Sh_putInto 114 = .ok (.invokevirtual 69, 3) := by decide +kernel
theorem d_Sh_putInto_117 : decode b_Sh_putInto 117 = .ok (.aload_n 1, 1) := by decide +kernel
theorem d_Sh_putInto_118 : decode b_Sh_putInto 118 = .ok (.aload_n 0, 1) := by decide +kernel
theorem d_Sh_putInto_119 : decode b_Sh_putInto 119 = .ok (.getfield 38, 3) := by decide +kernel
theorem d_Sh_putInto_122 : decode b_Sh_putInto 122 = .ok (.invokevirtual 69, 3) := by decide +kernel
theorem d_Sh_putInto_125 : decode b_Sh_putInto 125 = .ok (.iload 5, 2) := by decide +kernel
theorem d_Sh_putInto_127 : decode b_Sh_putInto 127 = .ok (.ifCond .eq 11, 3) := by decide +kernel
theorem d_Sh_putInto_130 : decode b_Sh_putInto 130 = .ok (.aload_n 1, 1) := by decide +kernel
theorem d_Sh_putInto_131 : decode b_Sh_putInto 131 = .ok (.bipush 48, 2) := by decide +kernel
theorem d_Sh_putInto_133 : decode b_Sh_putInto 133 = .ok (.iload 4, 2) := by decide +kernel
theorem d_Sh_putInto_135 : decode b_Sh_putInto 135 = .ok (.invokevirtual 106, 3) := by decide +kernel
theorem d_Sh_putInto_138 : decode b_Sh_putInto 138 = .ok (.aload_n 1, 1) := by decide +kernel
theorem d_Sh_putInto_139 : decode b_Sh_putInto 139 = .ok (.aload_n 0, 1) := by decide +kernel
theorem d_Sh_putInto_140 : decode b_Sh_putInto 140 = .ok (.getfield 16, 3) := by decide +kernel
theorem d_Sh_putInto_143 : decode b_Sh_putInto 143 = .ok (.iconst 0, 1) := by decide +kernel
theorem d_Sh_putInto_144 : decode b_Sh_putInto 144 = .ok (.aload_n 0, 1) := by decide +kernel
theorem d_Sh_putInto_145 : decode b_Sh_putInto 145 = .ok (.getfield 16, 3) := by decide +kernel
theorem d_Sh_putInto_148 : decode b_Sh_putInto 148 = .ok (.invokevirtual 149, 3) := by decide +kernel
theorem d_Sh_putInto_151 : decode b_Sh_putInto 151 = .ok (.invokevirtual 79, 3) := by decide +kernel
theorem d_Sh_putInto_154 : decode b_Sh_putInto 154 = .ok (.aload_n 2, 1) := by decide +kernel
theorem d_Sh_putInto_155 : decode b_Sh_putInto 155 = .ok (.getfield 169, 3) := by decide +kernel
theorem d_Sh_putInto_158 : decode b_Sh_putInto 158 = .ok (.ifCond .eq 11, 3) := by decide +kernel
theorem d_Sh_putInto_161 : decode b_Sh_putInto 161 = .ok (.aload_n 1, 1) := by decide +kernel
theorem d_Sh_putInto_162 : decode b_Sh_putInto 162 = .ok (.bipush 32, 2) := by decide +kernel
theorem d_Sh_putInto_164 : decode b_Sh_putInto 164 = .ok (.iload 4, 2) := by decide +kernel
theorem d_Sh_putInto_166 : decode b_Sh_putInto 166 = .ok (.invokevirtual 106, 3) := by decide +kernel
theorem d_Sh_putInto_169 : decode b_Sh_putInto 169 = .ok (.iconst 1, 1) := by decide +kernel
theorem d_Sh_putInto_170 : decode b_Sh_putInto 170 = .ok (.ireturn, 1) := by decide +kernel
