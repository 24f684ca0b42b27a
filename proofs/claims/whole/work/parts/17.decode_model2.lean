theorem d_Mo_init_0 : decode b_Mo_init 0 = .ok (.aload_n 0, 1) := by decide +kernel
theorem d_Mo_init_1 : decode b_Mo_init 1 = .ok (.invokespecial 1, 3) := by decide +kernel
theorem d_Mo_init_4 : decode b_Mo_init 4 = .ok (.aload_n 0, 1) := by decide +kernel
theorem d_Mo_init_5 : decode b_Mo_init 5 = .ok (.sipush 200, 3) := by decide +kernel
theorem d_Mo_init_8 : decode b_Mo_init 8 = .ok (.newarray .int, 2) := by decide +kernel
theorem d_Mo_init_10 : decode b_Mo_init 10 = .ok (.putfield 7, 3) := by decide +kernel
theorem d_Mo_init_13 : decode b_Mo_init 13 = .ok (.aload_n 0, 1) := by decide +kernel
theorem d_Mo_init_14 : decode b_Mo_init 14 = .ok (.bipush 12, 2) := by decide +kernel
theorem d_Mo_init_16 : decode b_Mo_init 16 = .ok (.newarray .boolean, 2) := by decide +kernel
theorem d_Mo_init_18 : decode b_Mo_init 18 = .ok (.putfield 13, 3) := by decide +kernel
theorem d_Mo_init_21 : decode b_Mo_init 21 = .ok (.aload_n 0, 1) := by decide +kernel
theorem d_Mo_init_22 : decode b_Mo_init 22 = .ok (.bipush 12, 2) := by decide +kernel
theorem d_Mo_init_24 : decode b_Mo_init 24 = .ok (.newarray .int, 2) := by decide +kernel
theorem d_Mo_init_26 : decode b_Mo_init 26 = .ok (.putfield 17, 3) := by decide +kernel
theorem d_Mo_init_29 : decode b_Mo_init 29 = .ok (.aload_n 0, 1) := by decide +kernel
theorem d_Mo_init_30 : decode b_Mo_init 30 = .ok (.sipush 720, 3) := by decide +kernel
theorem d_Mo_init_33 : decode b_Mo_init 33 = .ok (.newarray .int, 2) := by decide +kernel
theorem d_Mo_init_35 : decode b_Mo_init 35 = .ok (.putfield 20, 3) := by decide +kernel
theorem d_Mo_init_38 : decode b_Mo_init 38 = .ok (.aload_n 0, 1) := by decide +kernel
theorem d_Mo_init_39 : decode b_Mo_init 39 = .ok (.sipush 360, 3) := by decide +kernel
theorem d_Mo_init_42 : decode b_Mo_init 42 = .ok (.newarray .int, 2) := by decide +kernel
theorem d_Mo_init_44 : decode b_Mo_init 44 = .ok (.putfield 23, 3) := by decide +kernel
theorem d_Mo_init_47 : decode b_Mo_init 47 = .ok (.aload_n 0, 1) := by decide +kernel
theorem d_Mo_init_48 : decode b_Mo_init 48 = .ok (.bipush 12, 2) := by decide +kernel
theorem d_Mo_init_50 : decode b_Mo_init 50 = .ok (.newarray .int, 2) := by decide +kernel
theorem d_Mo_init_52 : decode b_Mo_init 52 = .ok (.putfield 26, 3) := by decide +kernel
theorem d_Mo_init_55 : decode b_Mo_init 55 = .ok (.aload_n 0, 1) := by decide +kernel
theorem d_Mo_init_56 : decode b_Mo_init 56 = .ok (.bipush 12, 2) := by decide +kernel
theorem d_Mo_init_58 : decode b_Mo_init 58 = .ok (.newarray .int, 2) := by decide +kernel
theorem d_Mo_init_60 : decode b_Mo_init 60 = .ok (.putfield 29, 3) := by decide +kernel
theorem d_Mo_init_63 : decode b_Mo_init 63 = .ok (.aload_n 0, 1) := by decide +kernel
theorem d_Mo_init_64 : decode b_Mo_init 64 = .ok (.bipush 12, 2) := by decide +kernel
theorem d_Mo_init_66 : decode b_Mo_init 66 = .ok (.newarray .boolean, 2) := by decide +kernel
theorem d_Mo_init_68 : decode b_Mo_init 68 = .ok (.putfield 32, 3) := by decide +kernel
theorem d_Mo_init_71 : decode b_Mo_init 71 = .ok (.aload_n 0, 1) := by decide +kernel
theorem d_Mo_init_72 : decode b_Mo_init 72 = .ok (.sipush 600, 3) := by decide +kernel
theorem d_Mo_init_75 : decode b_Mo_init 75 = .ok (.newarray .int, 2) := by decide +kernel
theorem d_Mo_init_77 : decode b_Mo_init 77 = .ok (.putfield 35, 3) := by decide +kernel
theorem d_Mo_init_80 : decode b_Mo_init 80 = .ok (.aload_n 0, 1) := by decide +kernel
theorem d_Mo_init_81 : decode b_Mo_init 81 = .ok (.sipush 600, 3) := by decide +kernel
theorem d_Mo_init_84 : decode b_Mo_init 84 = .ok (.newarray .int, 2) := by decide +kernel
theorem d_Mo_init_86 : decode b_Mo_init 86 = .ok (.putfield 38, 3) := by decide +kernel
theorem d_Mo_init_89 : decode b_Mo_init 89 = .ok (.aload_n 0, 1) := by decide +kernel
theorem d_Mo_init_90 : decode b_Mo_init 90 = .ok (.iconst 4, 1) := by decide +kernel
theorem d_Mo_init_91 : decode b_Mo_init 91 = .ok (.newarray .int, 2) := by decide +kernel
theorem d_Mo_init_93 : decode b_Mo_init 93 = .ok (.putfield 41, 3) := by decide +kernel
theorem d_Mo_init_96 : decode b_Mo_init 96 = .ok (.aload_n 0, 1) := by decide +kernel
theorem d_Mo_init_97 : decode b_Mo_init 97 = .ok (.sipush 900, 3) := by decide +kernel
theorem d_Mo_init_100 : decode b_Mo_init 100 = .ok (.newarray .int, 2) := by decide +kernel
theorem d_Mo_init_102 : decode b_Mo_init 102 = .ok (.putfield 44, 3) := by decide +kernel
theorem d_Mo_init_105 : decode b_Mo_init 105 = .ok (.aload_n 0, 1) := by decide +kernel
theorem d_Mo_init_106 : decode b_Mo_init 106 = .ok (.bipush 60, 2) := by decide +kernel
theorem d_Mo_init_108 : decode b_Mo_init 108 = .ok (.newarray .int, 2) := by decide +kernel
theorem d_Mo_init_110 : decode b_Mo_init 110 = .ok (.putfield 47, 3) := by decide +kernel
theorem d_Mo_init_113 : decode b_Mo_init 113 = .ok (.aload_n 0, 1) := by decide +kernel
theorem d_Mo_init_114 : decode b_Mo_init 114 = .ok (.bipush 64, 2) := by decide +kernel
theorem d_Mo_init_116 : decode b_Mo_init 116 = .ok (.newarray .int, 2) := by decide +kernel
theorem d_Mo_init_118 : decode b_Mo_init 118 = .ok (.putfield 50, 3) := by decide +kernel
theorem d_Mo_init_121 : decode b_Mo_init 121 = .ok (.aload_n 0, 1) := by decide +kernel
theorem d_Mo_init_122 : decode b_Mo_init 122 = .ok (.sipush 140, 3) := by decide +kernel
theorem d_Mo_init_125 : decode b_Mo_init 125 = .ok (.newarray .int, 2) := by decide +kernel
theorem d_Mo_init_127 : decode b_Mo_init 127 = .ok (.putfield 53, 3) := by decide +kernel
theorem d_Mo_init_130 : decode b_Mo_init 130 = .ok (.return_, 1) := by decide +kernel
theorem d_Mo_fill_0 : decode b_Mo_fill 0 = .ok (.aload_n 0, 1) := by decide +kernel
theorem d_Mo_fill_1 : decode b_Mo_fill 1 = .ok (.iconst 0, 1) := by decide +kernel
theorem d_Mo_fill_2 : decode b_Mo_fill 2 = .ok (.putfield 117, 3) := by decide +kernel
theorem d_Mo_fill_5 : decode b_Mo_fill 5 = .ok (.aload_n 0, 1) := by decide +kernel
theorem d_Mo_fill_6 : decode b_Mo_fill 6 = .ok (.iconst 0, 1) := by decide +kernel
theorem d_Mo_fill_7 : decode b_Mo_fill 7 = .ok (.putfield 120, 3) := by decide +kernel
theorem d_Mo_fill_10 : decode b_Mo_fill 10 = .ok (.aload_n 0, 1) := by decide +kernel
theorem d_Mo_fill_11 : decode b_Mo_fill 11 = .ok (.iconst 0, 1) := by decide +kernel
theorem d_Mo_fill_12 : decode b_Mo_fill 12 = .ok (.putfield 133, 3) := by decide +kernel
theorem d_Mo_fill_15 : decode b_Mo_fill 15 = .ok (.aload_n 0, 1) := by decide +kernel
theorem d_Mo_fill_16 : decode b_Mo_fill 16 = .ok (.iconst 0, 1) := by decide +kernel
theorem d_Mo_fill_17 : decode b_Mo_fill 17 = .ok (.putfield 138, 3) := by decide +kernel
theorem d_Mo_fill_20 : decode b_Mo_fill 20 = .ok (.aload_n 0, 1) := by decide +kernel
theorem d_Mo_fill_21 : decode b_Mo_fill 21 = .ok (.invokevirtual 229, 3) := by decide +kernel
theorem d_Mo_fill_24 : decode b_Mo_fill 24 = .ok (.istore_n 1, 1) := by decide +kernel
theorem d_Mo_fill_25 : decode b_Mo_fill 25 = .ok (.aload_n 0, 1) := by decide +kernel
theorem d_Mo_fill_26 : decode b_Mo_fill 26 = .ok (.iconst 0, 1) := by decide +kernel
theorem d_Mo_fill_27 : decode b_Mo_fill 27 = .ok (.putfield 99, 3) := by decide +kernel
theorem d_Mo_fill_30 : decode b_Mo_fill 30 = .ok (.iload_n 1, 1) := by decide +kernel
theorem d_Mo_fill_31 : decode b_Mo_fill 31 = .ok (.ifCond .eq 117, 3) := by decide +kernel
theorem d_Mo_fill_34 : decode b_Mo_fill 34 = .ok (.aload_n 0, 1) := by decide +kernel
theorem d_Mo_fill_35 : decode b_Mo_fill 35 = .ok (.getfield 99, 3) := by decide +kernel
theorem d_Mo_fill_38 : decode b_Mo_fill 38 = .ok (.aload_n 0, 1) := by decide +kernel
theorem d_Mo_fill_39 : decode b_Mo_fill 39 = .ok (.getfield 60, 3) := by decide +kernel
theorem d_Mo_fill_42 : decode b_Mo_fill 42 = .ok (.if_icmp .ge 106, 3) := by decide +kernel
theorem d_Mo_fill_45 : decode b_Mo_fill 45 = .ok (.aload_n 0, 1) := by decide +kernel
theorem d_Mo_fill_46 : decode b_Mo_fill 46 = .ok (.aload_n 0, 1) := by decide +kernel
theorem d_Mo_fill_47 : decode b_Mo_fill 47 = .ok (.getfield 99, 3) := by decide +kernel
theorem d_Mo_fill_50 : decode b_Mo_fill 50 = .ok (.putfield 123, 3) := by decide +kernel
theorem d_Mo_fill_53 : decode b_Mo_fill 53 = .ok (.aload_n 0, 1) := by decide +kernel
theorem d_Mo_fill_54 : decode b_Mo_fill 54 = .ok (.dup, 1) := by decide +kernel
theorem d_Mo_fill_55 : decode b_Mo_fill 55 = .ok (.getfield 99, 3) := by decide +kernel
theorem d_Mo_fill_58 : decode b_Mo_fill 58 = .ok (.iconst 1, 1) := by decide +kernel
theorem d_Mo_fill_59 : decode b_Mo_fill 59 = .ok (.iadd, 1) := by decide +kernel
theorem d_Mo_fill_60 : decode b_Mo_fill 60 = .ok (.putfield 99, 3) := by decide +kernel
theorem d_Mo_fill_63 : decode b_Mo_fill 63 = .ok (.aload_n 0, 1) := by decide +kernel
theorem d_Mo_fill_64 : decode b_Mo_fill 64 = .ok (.getfield 7, 3) := by decide +kernel
theorem d_Mo_fill_67 : decode b_Mo_fill 67 = .ok (.aload_n 0, 1) := by decide +kernel
theorem d_Mo_fill_68 : decode b_Mo_fill 68 = .ok (.getfield 123, 3) := by decide +kernel
theorem d_Mo_fill_71 : decode b_Mo_fill 71 = .ok (.iaload, 1) := by decide +kernel
theorem d_Mo_fill_72 : decode b_Mo_fill 72 = .ok (.bipush 37, 2) := by decide +kernel
theorem d_Mo_fill_74 : decode b_Mo_fill 74 = .ok (.if_icmp .eq 24, 3) := by decide +kernel
theorem d_Mo_fill_77 : decode b_Mo_fill 77 = .ok (.aload_n 0, 1) := by decide +kernel
theorem d_Mo_fill_78 : decode b_Mo_fill 78 = .ok (.aload_n 0, 1) := by decide +kernel
theorem d_Mo_fill_79 : decode b_Mo_fill 79 = .ok (.getfield 7, 3) := by decide +kernel
theorem d_Mo_fill_82 : decode b_Mo_fill 82 = .ok (.aload_n 0, 1) := by decide +kernel
theorem d_Mo_fill_83 : decode b_Mo_fill 83 = .ok (.getfield 123, 3) := by decide +kernel
theorem d_Mo_fill_86 : decode b_Mo_fill 86 = .ok (.iaload, 1) := by decide +kernel
theorem d_Mo_fill_87 : decode b_Mo_fill 87 = .ok (.aload_n 0, 1) := by decide +kernel
theorem d_Mo_fill_88 : decode b_Mo_fill 88 = .ok (.getfield 123, 3) := by decide +kernel
theorem d_Mo_fill_91 : decode b_Mo_fill 91 = .ok (.invokevirtual 182, 3) := by decide +kernel
theorem d_Mo_fill_94 : decode b_Mo_fill 94 = .ok (.istore_n 1, 1) := by decide +kernel
theorem d_Mo_fill_95 : decode b_Mo_fill 95 = .ok (.goto (-65), 3) := by decide +kernel
theorem d_Mo_fill_98 : decode b_Mo_fill 98 = .ok (.aload_n 0, 1) := by decide +kernel
theorem d_Mo_fill_99 : decode b_Mo_fill 99 = .ok (.aload_n 0, 1) := by decide +kernel
theorem d_Mo_fill_100 : decode b_Mo_fill 100 = .ok (.getfield 99, 3) := by decide +kernel
theorem d_Mo_fill_103 : decode b_Mo_fill 103 = .ok (.invokevirtual 102, 3) := by decide +kernel
theorem d_Mo_fill_106 : decode b_Mo_fill 106 = .ok (.bipush 37, 2) := by decide +kernel
theorem d_Mo_fill_108 : decode b_Mo_fill 108 = .ok (.if_icmp .ne 27, 3) := by decide +kernel
theorem d_Mo_fill_111 : decode b_Mo_fill 111 = .ok (.aload_n 0, 1) := by decide +kernel
theorem d_Mo_fill_112 : decode b_Mo_fill 112 = .ok (.dup, 1) := by decide +kernel
theorem d_Mo_fill_113 : decode b_Mo_fill 113 = .ok (.getfield 99, 3) := by decide +kernel
theorem d_Mo_fill_116 : decode b_Mo_fill 116 = .ok (.iconst 1, 1) := by decide +kernel
theorem d_Mo_fill_117 : decode b_Mo_fill 117 = .ok (.iadd, 1) := by decide +kernel
theorem d_Mo_fill_118 : decode b_Mo_fill 118 = .ok (.putfield 99, 3) := by decide +kernel
theorem d_Mo_fill_121 : decode b_Mo_fill 121 = .ok (.aload_n 0, 1) := by decide +kernel
theorem d_Mo_fill_122 : decode b_Mo_fill 122 = .ok (.bipush 37, 2) := by decide +kernel
theorem d_Mo_fill_124 : decode b_Mo_fill 124 = .ok (.aload_n 0, 1) := by decide +kernel
theorem d_Mo_fill_125 : decode b_Mo_fill 125 = .ok (.getfield 123, 3) := by decide +kernel
theorem d_Mo_fill_128 : decode b_Mo_fill 128 = .ok (.invokevirtual 182, 3) := by decide +kernel
theorem d_Mo_fill_131 : decode b_Mo_fill 131 = .ok (.istore_n 1, 1) := by decide +kernel
theorem d_Mo_fill_132 : decode b_Mo_fill 132 = .ok (.goto (-102), 3) := by decide +kernel
theorem d_Mo_fill_135 : decode b_Mo_fill 135 = .ok (.aload_n 0, 1) := by decide +kernel
theorem d_Mo_fill_136 : decode b_Mo_fill 136 = .ok (.invokevirtual 126, 3) := by decide +kernel
theorem d_Mo_fill_139 : decode b_Mo_fill 139 = .ok (.pop, 1) := by decide +kernel
theorem d_Mo_fill_140 : decode b_Mo_fill 140 = .ok (.aload_n 0, 1) := by decide +kernel
theorem d_Mo_fill_141 : decode b_Mo_fill 141 = .ok (.invokevirtual 232, 3) := by decide +kernel
theorem d_Mo_fill_144 : decode b_Mo_fill 144 = .ok (.istore_n 1, 1) := by decide +kernel
theorem d_Mo_fill_145 : decode b_Mo_fill 145 = .ok (.goto (-115), 3) := by decide +kernel
theorem d_Mo_fill_148 : decode b_Mo_fill 148 = .ok (.iload_n 1, 1) := by decide +kernel
theorem d_Mo_fill_149 : decode b_Mo_fill 149 = .ok (.ifCond .eq 24, 3) := by decide +kernel
theorem d_Mo_fill_152 : decode b_Mo_fill 152 = .ok (.aload_n 0, 1) := by decide +kernel
theorem d_Mo_fill_153 : decode b_Mo_fill 153 = .ok (.getfield 138, 3) := by decide +kernel
theorem d_Mo_fill_156 : decode b_Mo_fill 156 = .ok (.aload_n 0, 1) := by decide +kernel
theorem d_Mo_fill_157 : decode b_Mo_fill 157 = .ok (.getfield 65, 3) := by decide +kernel
theorem d_Mo_fill_160 : decode b_Mo_fill 160 = .ok (.if_icmp .ge 13, 3) := by decide +kernel
theorem d_Mo_fill_163 : decode b_Mo_fill 163 = .ok (.aload_n 0, 1) := by decide +kernel
theorem d_Mo_fill_164 : decode b_Mo_fill 164 = .ok (.iconst 4, 1) := by decide +kernel
theorem d_Mo_fill_165 : decode b_Mo_fill 165 = .ok (.aload_n 0, 1) := by decide +kernel
theorem d_Mo_fill_166 : decode b_Mo_fill 166 = .ok (.getfield 60, 3) := by decide +kernel
theorem d_Mo_fill_169 : decode b_Mo_fill 169 = .ok (.invokevirtual 129, 3) := by decide +kernel
theorem d_Mo_fill_172 : decode b_Mo_fill 172 = .ok (.istore_n 1, 1) := by decide +kernel
theorem d_Mo_fill_173 : decode b_Mo_fill 173 = .ok (.aload_n 0, 1) := by decide +kernel
theorem d_Mo_fill_174 : decode b_Mo_fill 174 = .ok (.iconst 0, 1) := by decide +kernel
theorem d_Mo_fill_175 : decode b_Mo_fill 175 = .ok (.putfield 60, 3) := by decide +kernel
theorem d_Mo_fill_178 : decode b_Mo_fill 178 = .ok (.iload_n 1, 1) := by decide +kernel
theorem d_Mo_fill_179 : decode b_Mo_fill 179 = .ok (.ifCond .ne 9, 3) := by decide +kernel
theorem d_Mo_fill_182 : decode b_Mo_fill 182 = .ok (.aload_n 0, 1) := by decide +kernel
theorem d_Mo_fill_183 : decode b_Mo_fill 183 = .ok (.iconst 1, 1) := by decide +kernel
theorem d_Mo_fill_184 : decode b_Mo_fill 184 = .ok (.invokevirtual 79, 3) := by decide +kernel
theorem d_Mo_fill_187 : decode b_Mo_fill 187 = .ok (.ireturn, 1) := by decide +kernel
theorem d_Mo_fill_188 : decode b_Mo_fill 188 = .ok (.aload_n 0, 1) := by decide +kernel
theorem d_Mo_fill_189 : decode b_Mo_fill 189 = .ok (.iconst 0, 1) := by decide +kernel
theorem d_Mo_fill_190 : decode b_Mo_fill 190 = .ok (.putfield 56, 3) := by decide +kernel
theorem d_Mo_fill_193 : decode b_Mo_fill 193 = .ok (.aload_n 0, 1) := by decide +kernel
theorem d_Mo_fill_194 : decode b_Mo_fill 194 = .ok (.iconst 1, 1) := by decide +kernel
theorem d_Mo_fill_195 : decode b_Mo_fill 195 = .ok (.putfield 235, 3) := by decide +kernel
theorem d_Mo_fill_198 : decode b_Mo_fill 198 = .ok (.aload_n 0, 1) := by decide +kernel
theorem d_Mo_fill_199 : decode b_Mo_fill 199 = .ok (.aload_n 0, 1) := by decide +kernel
theorem d_Mo_fill_200 : decode b_Mo_fill 200 = .ok (.getfield 133, 3) := by decide +kernel
theorem d_Mo_fill_203 : decode b_Mo_fill 203 = .ok (.putfield 238, 3) := by decide +kernel
theorem d_Mo_fill_206 : decode b_Mo_fill 206 = .ok (.iconst 0, 1) := by decide +kernel
theorem d_Mo_fill_207 : decode b_Mo_fill 207 = .ok (.istore_n 2, 1) := by decide +kernel
theorem d_Mo_fill_208 : decode b_Mo_fill 208 = .ok (.iload_n 2, 1) := by decide +kernel
theorem d_Mo_fill_209 : decode b_Mo_fill 209 = .ok (.aload_n 0, 1) := by decide +kernel
theorem d_Mo_fill_210 : decode b_Mo_fill 210 = .ok (.getfield 133, 3) := by decide +kernel
theorem d_Mo_fill_213 : decode b_Mo_fill 213 = .ok (.if_icmp .ge 21, 3) := by decide +kernel
theorem d_Mo_fill_216 : decode b_Mo_fill 216 = .ok (.aload_n 0, 1) := by decide +kernel
theorem d_Mo_fill_217 : decode b_Mo_fill 217 = .ok (.getfield 35, 3) := by decide +kernel
theorem d_Mo_fill_220 : decode b_Mo_fill 220 = .ok (.iload_n 2, 1) := by decide +kernel
theorem d_Mo_fill_221 : decode b_Mo_fill 221 = .ok (.aload_n 0, 1) := by decide +kernel
theorem d_Mo_fill_222 : decode b_Mo_fill 222 = .ok (.getfield 38, 3) := by decide +kernel
theorem d_Mo_fill_225 : decode b_Mo_fill 225 = .ok (.iload_n 2, 1) := by decide +kernel
theorem d_Mo_fill_226 : decode b_Mo_fill 226 = .ok (.iaload, 1) := by decide +kernel
theorem d_Mo_fill_227 : decode b_Mo_fill 227 = .ok (.iastore, 1) := by decide +kernel
theorem d_Mo_fill_228 : decode b_Mo_fill 228 = .ok (.iinc 2 1, 3) := by decide +kernel
theorem d_Mo_fill_231 : decode b_Mo_fill 231 = .ok (.goto (-23), 3) := by decide +kernel
theorem d_Mo_fill_234 : decode b_Mo_fill 234 = .ok (.aload_n 0, 1) := by decide +kernel
theorem d_Mo_fill_235 : decode b_Mo_fill 235 = .ok (.getfield 238, 3) := by decide +kernel
theorem d_Mo_fill_238 : decode b_Mo_fill 238 = .ok (.ireturn, 1) := by decide +kernel
theorem d_Mo_isPattern_0 : decode b_Mo_isPattern 0 = .ok (.aload_n 0, 1) := by decide +kernel
theorem d_Mo_isPattern_1 : decode b_Mo_isPattern 1 = .ok (.iconst 0, 1) := by decide +kernel
theorem d_Mo_isPattern_2 : decode b_Mo_isPattern 2 = .ok (.putfield 99, 3) := by decide +kernel
theorem d_Mo_isPattern_5 : decode b_Mo_isPattern 5 = .ok (.aload_n 0, 1) := by decide +kernel
theorem d_Mo_isPattern_6 : decode b_Mo_isPattern 6 = .ok (.getfield 99, 3) := by decide +kernel
theorem d_Mo_isPattern_9 : decode b_Mo_isPattern 9 = .ok (.aload_n 0, 1) := by decide +kernel
theorem d_Mo_isPattern_10 : decode b_Mo_isPattern 10 = .ok (.getfield 60, 3) := by decide +kernel
theorem d_Mo_isPattern_13 : decode b_Mo_isPattern 13 = .ok (.if_icmp .ge 81, 3) := by decide +kernel
theorem d_Mo_isPattern_16 : decode b_Mo_isPattern 16 = .ok (.aload_n 0, 1) := by decide +kernel
theorem d_Mo_isPattern_17 : decode b_Mo_isPattern 17 = .ok (.aload_n 0, 1) := by decide +kernel
theorem d_Mo_isPattern_18 : decode b_Mo_isPattern 18 = .ok (.getfield 99, 3) := by decide +kernel
theorem d_Mo_isPattern_21 : decode b_Mo_isPattern 21 = .ok (.putfield 123, 3) := by decide +kernel
theorem d_Mo_isPattern_24 : decode b_Mo_isPattern 24 = .ok (.aload_n 0, 1) := by decide +kernel
theorem d_Mo_isPattern_25 : decode b_Mo_isPattern 25 = .ok (.dup, 1) := by decide +kernel
theorem d_Mo_isPattern_26 : decode b_Mo_isPattern 26 = .ok (.getfield 99, 3) := by decide +kernel
theorem d_Mo_isPattern_29 : decode b_Mo_isPattern 29 = .ok (.iconst 1, 1) := by decide +kernel
theorem d_Mo_isPattern_30 : decode b_Mo_isPattern 30 = .ok (.iadd, 1) := by decide +kernel
theorem d_Mo_isPattern_31 : decode b_Mo_isPattern 31 = .ok (.putfield 99, 3) := by decide +kernel
theorem d_Mo_isPattern_34 : decode b_Mo_isPattern 34 = .ok (.aload_n 0, 1) := by decide +kernel
theorem d_Mo_isPattern_35 : decode b_Mo_isPattern 35 = .ok (.getfield 7, 3) := by decide +kernel
theorem d_Mo_isPattern_38 : decode b_Mo_isPattern 38 = .ok (.aload_n 0, 1) := by decide +kernel
theorem d_Mo_isPattern_39 : decode b_Mo_isPattern 39 = .ok (.getfield 123, 3) := by decide +kernel
theorem d_Mo_isPattern_42 : decode b_Mo_isPattern 42 = .ok (.iaload, 1) := by decide +kernel
theorem d_Mo_isPattern_43 : decode b_Mo_isPattern 43 = .ok (.bipush 37, 2) := by decide +kernel
theorem d_Mo_isPattern_45 : decode b_Mo_isPattern 45 = .ok (.if_icmp .eq 6, 3) := by decide +kernel
theorem d_Mo_isPattern_48 : decode b_Mo_isPattern 48 = .ok (.goto (-43), 3) := by decide +kernel
theorem d_Mo_isPattern_51 : decode b_Mo_isPattern 51 = .ok (.aload_n 0, 1) := by decide +kernel
theorem d_Mo_isPattern_52 : decode b_Mo_isPattern 52 = .ok (.aload_n 0, 1) := by decide +kernel
theorem d_Mo_isPattern_53 : decode b_Mo_isPattern 53 = .ok (.getfield 99, 3) := by decide +kernel
theorem d_Mo_isPattern_56 : decode b_Mo_isPattern 56 = .ok (.invokevirtual 102, 3) := by decide +kernel
theorem d_Mo_isPattern_59 : decode b_Mo_isPattern 59 = .ok (.bipush 37, 2) := by decide +kernel
theorem d_Mo_isPattern_61 : decode b_Mo_isPattern 61 = .ok (.if_icmp .ne 16, 3) := by decide +kernel
theorem d_Mo_isPattern_64 : decode b_Mo_isPattern 64 = .ok (.aload_n 0, 1) := by decide +kernel
theorem d_Mo_isPattern_65 : decode b_Mo_isPattern 65 = .ok (.dup, 1) := by decide +kernel
theorem d_Mo_isPattern_66 : decode b_Mo_isPattern 66 = .ok (.getfield 99, 3) := by decide +kernel
theorem d_Mo_isPattern_69 : decode b_Mo_isPattern 69 = .ok (.iconst 1, 1) := by decide +kernel
theorem d_Mo_isPattern_70 : decode b_Mo_isPattern 70 = .ok (.iadd, 1) := by decide +kernel
theorem d_Mo_isPattern_71 : decode b_Mo_isPattern 71 = .ok (.putfield 99, 3) := by decide +kernel
theorem d_Mo_isPattern_74 : decode b_Mo_isPattern 74 = .ok (.goto (-69), 3) := by decide +kernel
theorem d_Mo_isPattern_77 : decode b_Mo_isPattern 77 = .ok (.aload_n 0, 1) := by decide +kernel
theorem d_Mo_isPattern_78 : decode b_Mo_isPattern 78 = .ok (.invokevirtual 126, 3) := by decide +kernel
theorem d_Mo_isPattern_81 : decode b_Mo_isPattern 81 = .ok (.ifCond .ne (-76), 3) := by decide +kernel
theorem d_Mo_isPattern_84 : decode b_Mo_isPattern 84 = .ok (.aload_n 0, 1) := by decide +kernel
theorem d_Mo_isPattern_85 : decode b_Mo_isPattern 85 = .ok (.iconst 1, 1) := by decide +kernel
theorem d_Mo_isPattern_86 : decode b_Mo_isPattern 86 = .ok (.aload_n 0, 1) := by decide +kernel
theorem d_Mo_isPattern_87 : decode b_Mo_isPattern 87 = .ok (.getfield 123, 3) := by decide +kernel
theorem d_Mo_isPattern_90 : decode b_Mo_isPattern 90 = .ok (.invokevirtual 129, 3) := by decide +kernel
theorem d_Mo_isPattern_93 : decode b_Mo_isPattern 93 = .ok (.ireturn, 1) := by decide +kernel
theorem d_Mo_isPattern_94 : decode b_Mo_isPattern 94 = .ok (.iconst 1, 1) := by decide +kernel
theorem d_Mo_isPattern_95 : decode b_Mo_isPattern 95 = .ok (.ireturn, 1) := by decide +kernel
theorem d_Mo_readField_0 : decode b_Mo_readField 0 = .ok (.aload_n 0, 1) := by decide +kernel
theorem d_Mo_readField_1 : decode b_Mo_readField 1 = .ok (.iconst 0, 1) := by decide +kernel
theorem d_Mo_readField_2 : decode b_Mo_readField 2 = .ok (.putfield 83, 3) := by decide +kernel
theorem d_Mo_readField_5 : decode b_Mo_readField 5 = .ok (.aload_n 0, 1) := by decide +kernel
theorem d_Mo_readField_6 : decode b_Mo_readField 6 = .ok (.iconst 0, 1) := by decide +kernel
theorem d_Mo_readField_7 : decode b_Mo_readField 7 = .ok (.putfield 87, 3) := by decide +kernel
theorem d_Mo_readField_10 : decode b_Mo_readField 10 = .ok (.aload_n 0, 1) := by decide +kernel
theorem d_Mo_readField_11 : decode b_Mo_readField 11 = .ok (.iconst 0, 1) := by decide +kernel
theorem d_Mo_readField_12 : decode b_Mo_readField 12 = .ok (.putfield 90, 3) := by decide +kernel
theorem d_Mo_readField_15 : decode b_Mo_readField 15 = .ok (.aload_n 0, 1) := by decide +kernel
theorem d_Mo_readField_16 : decode b_Mo_readField 16 = .ok (.iconst 0, 1) := by decide +kernel
theorem d_Mo_readField_17 : decode b_Mo_readField 17 = .ok (.putfield 93, 3) := by decide +kernel
theorem d_Mo_readField_20 : decode b_Mo_readField 20 = .ok (.aload_n 0, 1) := by decide +kernel
theorem d_Mo_readField_21 : decode b_Mo_readField 21 = .ok (.iconst 0, 1) := by decide +kernel
theorem d_Mo_readField_22 : decode b_Mo_readField 22 = .ok (.putfield 96, 3) := by decide +kernel
theorem d_Mo_readField_25 : decode b_Mo_readField 25 = .ok (.aload_n 0, 1) := by decide +kernel
theorem d_Mo_readField_26 : decode b_Mo_readField 26 = .ok (.aload_n 0, 1) := by decide +kernel
theorem d_Mo_readField_27 : decode b_Mo_readField 27 = .ok (.getfield 99, 3) := by decide +kernel
theorem d_Mo_readField_30 : decode b_Mo_readField 30 = .ok (.invokevirtual 102, 3) := by decide +kernel
theorem d_Mo_readField_33 : decode b_Mo_readField 33 = .ok (.bipush 45, 2) := by decide +kernel
theorem d_Mo_readField_35 : decode b_Mo_readField 35 = .ok (.if_icmp .eq 55, 3) := by decide +kernel
theorem d_Mo_readField_38 : decode b_Mo_readField 38 = .ok (.aload_n 0, 1) := by decide +kernel
theorem d_Mo_readField_39 : decode b_Mo_readField 39 = .ok (.aload_n 0, 1) := by decide +kernel
theorem d_Mo_readField_40 : decode b_Mo_readField 40 = .ok (.getfield 99, 3) := by decide +kernel
theorem d_Mo_readField_43 : decode b_Mo_readField 43 = .ok (.invokevirtual 102, 3) := by decide +kernel
theorem d_Mo_readField_46 : decode b_Mo_readField 46 = .ok (.bipush 43, 2) := by decide +kernel
theorem d_Mo_readField_48 : decode b_Mo_readField 48 = .ok (.if_icmp .eq 42, 3) := by decide +kernel
theorem d_Mo_readField_51 : decode b_Mo_readField 51 = .ok (.aload_n 0, 1) := by decide +kernel
theorem d_Mo_readField_52 : decode b_Mo_readField 52 = .ok (.aload_n 0, 1) := by decide +kernel
theorem d_Mo_readField_53 : decode b_Mo_readField 53 = .ok (.getfield 99, 3) := by decide +kernel
theorem d_Mo_readField_56 : decode b_Mo_readField 56 = .ok (.invokevirtual 102, 3) := by decide +kernel
theorem d_Mo_readField_59 : decode b_Mo_readField 59 = .ok (.bipush 48, 2) := by decide +kernel
theorem d_Mo_readField_61 : decode b_Mo_readField 61 = .ok (.if_icmp .eq 29, 3) := by decide +kernel
theorem d_Mo_readField_64 : decode b_Mo_readField 64 = .ok (.aload_n 0, 1) := by decide +kernel
theorem d_Mo_readField_65 : decode b_Mo_readField 65 = .ok (.aload_n 0, 1) := by decide +kernel
theorem d_Mo_readField_66 : decode b_Mo_readField 66 = .ok (.getfield 99, 3) := by decide +kernel
theorem d_Mo_readField_69 : decode b_Mo_readField 69 = .ok (.invokevirtual 102, 3) := by decide +kernel
theorem d_Mo_readField_72 : decode b_Mo_readField 72 = .ok (.bipush 35, 2) := by decide +kernel
theorem d_Mo_readField_74 : decode b_Mo_readField 74 = .ok (.if_icmp .eq 16, 3) := by decide +kernel
theorem d_Mo_readField_77 : decode b_Mo_readField 77 = .ok (.aload_n 0, 1) := by decide +kernel
theorem d_Mo_readField_78 : decode b_Mo_readField 78 = .ok (.aload_n 0, 1) := by decide +kernel
theorem d_Mo_readField_79 : decode b_Mo_readField 79 = .ok (.getfield 99, 3) := by decide +kernel
theorem d_Mo_readField_82 : decode b_Mo_readField 82 = .ok (.invokevirtual 102, 3) := by decide +kernel
theorem d_Mo_readField_85 : decode b_Mo_readField 85 = .ok (.bipush 32, 2) := by decide +kernel
theorem d_Mo_readField_87 : decode b_Mo_readField 87 = .ok (.if_icmp .ne 161, 3) := by decide +kernel
theorem d_Mo_readField_90 : decode b_Mo_readField 90 = .ok (.aload_n 0, 1) := by decide +kernel
theorem d_Mo_readField_91 : decode b_Mo_readField 91 = .ok (.aload_n 0, 1) := by decide +kernel
theorem d_Mo_readField_92 : decode b_Mo_readField 92 = .ok (.getfield 83, 3) := by decide +kernel
theorem d_Mo_readField_95 : decode b_Mo_readField 95 = .ok (.ifCond .ne 16, 3) := by decide +kernel
theorem d_Mo_readField_98 : decode b_Mo_readField 98 = .ok (.aload_n 0, 1) := by decide +kernel
theorem d_Mo_readField_99 : decode b_Mo_readField 99 = .ok (.aload_n 0, 1) := by decide +kernel
theorem d_Mo_readField_100 : decode b_Mo_readField 100 = .ok (.getfield 99, 3) := by decide +kernel
theorem d_Mo_readField_103 : decode b_Mo_readField 103 = .ok (.invokevirtual 102, 3) := by decide +kernel
theorem d_Mo_readField_106 : decode b_Mo_readField 106 = .ok (.bipush 45, 2) := by decide +kernel
theorem d_Mo_readField_108 : decode b_Mo_readField 108 = .ok (.if_icmp .ne 7, 3) := by decide +kernel
theorem d_Mo_readField_111 : decode b_Mo_readField 111 = .ok (.iconst 1, 1) := by decide +kernel
theorem d_Mo_readField_112 : decode b_Mo_readField 112 = .ok (.goto 4, 3) := by decide +kernel
theorem d_Mo_readField_115 : decode b_Mo_readField 115 = .ok (.iconst 0, 1) := by decide +kernel
theorem d_Mo_readField_116 : decode b_Mo_readField 116 = .ok (.putfield 83, 3) := by decide +kernel
theorem d_Mo_readField_119 : decode b_Mo_readField 119 = .ok (.aload_n 0, 1) := by decide +kernel
theorem d_Mo_readField_120 : decode b_Mo_readField 120 = .ok (.aload_n 0, 1) := by decide +kernel
theorem d_Mo_readField_121 : decode b_Mo_readField 121 = .ok (.getfield 87, 3) := by decide +kernel
theorem d_Mo_readField_124 : decode b_Mo_readField 124 = .ok (.ifCond .ne 16, 3) := by decide +kernel
theorem d_Mo_readField_127 : decode b_Mo_readField 127 = .ok (.aload_n 0, 1) := by decide +kernel
theorem d_Mo_readField_128 : decode b_Mo_readField 128 = .ok (.aload_n 0, 1) := by decide +kernel
theorem d_Mo_readField_129 : decode b_Mo_readField 129 = .ok (.getfield 99, 3) := by decide +kernel
theorem d_Mo_readField_132 : decode b_Mo_readField 132 = .ok (.invokevirtual 102, 3) := by decide +kernel
theorem d_Mo_readField_135 : decode b_Mo_readField 135 = .ok (.bipush 43, 2) := by decide +kernel
theorem d_Mo_readField_137 : decode b_Mo_readField 137 = .ok (.if_icmp .ne 7, 3) := by decide +kernel
theorem d_Mo_readField_140 : decode b_Mo_readField 140 = .ok (.iconst 1, 1) := by decide +kernel
theorem d_Mo_readField_141 : decode b_Mo_readField 141 = .ok (.goto 4, 3) := by decide +kernel
theorem d_Mo_readField_144 : decode b_Mo_readField 144 = .ok (.iconst 0, 1) := by decide +kernel
theorem d_Mo_readField_145 : decode b_Mo_readField 145 = .ok (.putfield 87, 3) := by decide +kernel
theorem d_Mo_readField_148 : decode b_Mo_readField 148 = .ok (.aload_n 0, 1) := by decide +kernel
theorem d_Mo_readField_149 : decode b_Mo_readField 149 = .ok (.aload_n 0, 1) := by decide +kernel
theorem d_Mo_readField_150 : decode b_Mo_readField 150 = .ok (.getfield 90, 3) := by decide +kernel
theorem d_Mo_readField_153 : decode b_Mo_readField 153 = .ok (.ifCond .ne 16, 3) := by decide +kernel
theorem d_Mo_readField_156 : decode b_Mo_readField 156 = .ok (.aload_n 0, 1) := by decide +kernel
theorem d_Mo_readField_157 : decode b_Mo_readField 157 = .ok (.aload_n 0, 1) := by decide +kernel
theorem d_Mo_readField_158 : decode b_Mo_readField 158 = .ok (.getfield 99, 3) := by decide +kernel
theorem d_Mo_readField_161 : decode b_Mo_readField 161 = .ok (.invokevirtual 102, 3) := by decide +kernel
theorem d_Mo_readField_164 : decode b_Mo_readField 164 = .ok (.bipush 48, 2) := by decide +kernel
theorem d_Mo_readField_166 : decode b_Mo_readField 166 = .ok (.if_icmp .ne 7, 3) := by decide +kernel
theorem d_Mo_readField_169 : decode b_Mo_readField 169 = .ok (.iconst 1, 1) := by decide +kernel
theorem d_Mo_readField_170 : decode b_Mo_readField 170 = .ok (.goto 4, 3) := by decide +kernel
theorem d_Mo_readField_173 : decode b_Mo_readField 173 = .ok (.iconst 0, 1) := by decide +kernel
theorem d_Mo_readField_174 : decode b_Mo_readField 174 = .ok (.putfield 90, 3) := by decide +kernel
theorem d_Mo_readField_177 : decode b_Mo_readField 177 = .ok (.aload_n 0, 1) := by decide +kernel
theorem d_Mo_readField_178 : decode b_Mo_readField 178 = .ok (.aload_n 0, 1) := by decide +kernel
theorem d_Mo_readField_179 : decode b_Mo_readField 179 = .ok (.getfield 93, 3) := by decide +kernel
theorem d_Mo_readField_182 : decode b_Mo_readField 182 = .ok (.ifCond .ne 16, 3) := by decide +kernel
theorem d_Mo_readField_185 : decode b_Mo_readField 185 = .ok (.aload_n 0, 1) := by decide +kernel
theorem d_Mo_readField_186 : decode b_Mo_readField 186 = .ok (.aload_n 0, 1) := by decide +kernel
theorem d_Mo_readField_187 : decode b_Mo_readField 187 = .ok (.getfield 99, 3) := by decide +kernel
theorem d_Mo_readField_190 : decode b_Mo_readField 190 = .ok (.invokevirtual 102, 3) := by decide +kernel
theorem d_Mo_readField_193 : decode b_Mo_readField 193 = .ok (.bipush 35, 2) := by decide +kernel
theorem d_Mo_readField_195 : decode b_Mo_readField 195 = .ok (.if_icmp .ne 7, 3) := by decide +kernel
theorem d_Mo_readField_198 : decode b_Mo_readField 198 = .ok (.iconst 1, 1) := by decide +kernel
theorem d_Mo_readField_199 : decode b_Mo_readField 199 = .ok (.goto 4, 3) := by decide +kernel
theorem d_Mo_readField_202 : decode b_Mo_readField 202 = .ok (.iconst 0, 1) := by decide +kernel
theorem d_Mo_readField_203 : decode b_Mo_readField 203 = .ok (.putfield 93, 3) := by decide +kernel
theorem d_Mo_readField_206 : decode b_Mo_readField 206 = .ok (.aload_n 0, 1) := by decide +kernel
theorem d_Mo_readField_207 : decode b_Mo_readField 207 = .ok (.aload_n 0, 1) := by decide +kernel
theorem d_Mo_readField_208 : decode b_Mo_readField 208 = .ok (.getfield 96, 3) := by decide +kernel
theorem d_Mo_readField_211 : decode b_Mo_readField 211 = .ok (.ifCond .ne 16, 3) := by decide +kernel
theorem d_Mo_readField_214 : decode b_Mo_readField 214 = .ok (.aload_n 0, 1) := by decide +kernel
theorem d_Mo_readField_215 : decode b_Mo_readField 215 = .ok (.aload_n 0, 1) := by decide +kernel
theorem d_Mo_readField_216 : decode b_Mo_readField 216 = .ok (.getfield 99, 3) := by decide +kernel
theorem d_Mo_readField_219 : decode b_Mo_readField 219 = .ok (.invokevirtual 102, 3) := by decide +kernel
theorem d_Mo_readField_222 : decode b_Mo_readField 222 = .ok (.bipush 32, 2) := by decide +kernel
theorem d_Mo_readField_224 : decode b_Mo_readField 224 = .ok (.if_icmp .ne 7, 3) := by decide +kernel
theorem d_Mo_readField_227 : decode b_Mo_readField 227 = .ok (.iconst 1, 1) := by decide +kernel
theorem d_Mo_readField_228 : decode b_Mo_readField 228 = .ok (.goto 4, 3) := by decide +kernel
theorem d_Mo_readField_231 : decode b_Mo_readField 231 = .ok (.iconst 0, 1) := by decide +kernel
theorem d_Mo_readField_232 : decode b_Mo_readField 232 = .ok (.putfield 96, 3) := by decide +kernel
theorem d_Mo_readField_235 : decode b_Mo_readField 235 = .ok (.aload_n 0, 1) := by decide +kernel
theorem d_Mo_readField_236 : decode b_Mo_readField 236 = .ok (.dup, 1) := by decide +kernel
theorem d_Mo_readField_237 : decode b_Mo_readField 237 = .ok (.getfield 99, 3) := by decide +kernel
theorem d_Mo_readField_240 : decode b_Mo_readField 240 = .ok (.iconst 1, 1) := by decide +kernel
theorem d_Mo_readField_241 : decode b_Mo_readField 241 = .ok (.iadd, 1) := by decide +kernel
theorem d_Mo_readField_242 : decode b_Mo_readField 242 = .ok (.putfield 99, 3) := by decide +kernel
theorem d_Mo_readField_245 : decode b_Mo_readField 245 = .ok (.goto (-220), 3) := by decide +kernel
theorem d_Mo_readField_248 : decode b_Mo_readField 248 = .ok (.aload_n 0, 1) := by decide +kernel
theorem d_Mo_readField_249 : decode b_Mo_readField 249 = .ok (.iconst 0, 1) := by decide +kernel
theorem d_Mo_readField_250 : decode b_Mo_readField 250 = .ok (.putfield 105, 3) := by decide +kernel
theorem d_Mo_readField_253 : decode b_Mo_readField 253 = .ok (.aload_n 0, 1) := by decide +kernel
theorem d_Mo_readField_254 : decode b_Mo_readField 254 = .ok (.aload_n 0, 1) := by decide +kernel
theorem d_Mo_readField_255 : decode b_Mo_readField 255 = .ok (.getfield 99, 3) := by decide +kernel
theorem d_Mo_readField_258 : decode b_Mo_readField 258 = .ok (.invokevirtual 102, 3) := by decide +kernel
theorem d_Mo_readField_261 : decode b_Mo_readField 261 = .ok (.bipush 42, 2) := by decide +kernel
theorem d_Mo_readField_263 : decode b_Mo_readField 263 = .ok (.if_icmp .ne 22, 3) := by decide +kernel
theorem d_Mo_readField_266 : decode b_Mo_readField 266 = .ok (.aload_n 0, 1) := by decide +kernel
theorem d_Mo_readField_267 : decode b_Mo_readField 267 = .ok (.bipush (-2), 2) := by decide +kernel
theorem d_Mo_readField_269 : decode b_Mo_readField 269 = .ok (.putfield 105, 3) := by decide +kernel
theorem d_Mo_readField_272 : decode b_Mo_readField 272 = .ok (.aload_n 0, 1) := by decide +kernel
theorem d_Mo_readField_273 : decode b_Mo_readField 273 = .ok (.dup, 1) := by decide +kernel
theorem d_Mo_readField_274 : decode b_Mo_readField 274 = .ok (.getfield 99, 3) := by decide +kernel
theorem d_Mo_readField_277 : decode b_Mo_readField 277 = .ok (.iconst 1, 1) := by decide +kernel
theorem d_Mo_readField_278 : decode b_Mo_readField 278 = .ok (.iadd, 1) := by decide +kernel
theorem d_Mo_readField_279 : decode b_Mo_readField 279 = .ok (.putfield 99, 3) := by decide +kernel
theorem d_Mo_readField_282 : decode b_Mo_readField 282 = .ok (.goto 63, 3) := by decide +kernel
theorem d_Mo_readField_285 : decode b_Mo_readField 285 = .ok (.iconst 0, 1) := by decide +kernel
theorem d_Mo_readField_286 : decode b_Mo_readField 286 = .ok (.istore_n 1, 1) := by decide +kernel
theorem d_Mo_readField_287 : decode b_Mo_readField 287 = .ok (.iload_n 1, 1) := by decide +kernel
theorem d_Mo_readField_288 : decode b_Mo_readField 288 = .ok (.iconst 2, 1) := by decide +kernel
theorem d_Mo_readField_289 : decode b_Mo_readField 289 = .ok (.if_icmp .ge 56, 3) := by decide +kernel
theorem d_Mo_readField_292 : decode b_Mo_readField 292 = .ok (.aload_n 0, 1) := by decide +kernel
theorem d_Mo_readField_293 : decode b_Mo_readField 293 = .ok (.aload_n 0, 1) := by decide +kernel
theorem d_Mo_readField_294 : decode b_Mo_readField 294 = .ok (.getfield 99, 3) := by decide +kernel
theorem d_Mo_readField_297 : decode b_Mo_readField 297 = .ok (.invokevirtual 102, 3) := by decide +kernel
theorem d_Mo_readField_300 : decode b_Mo_readField 300 = .ok (.invokestatic 68, 3) := by decide +kernel
theorem d_Mo_readField_303 : decode b_Mo_readField 303 = .ok (.ifCond .eq 42, 3) := by decide +kernel
theorem d_Mo_readField_306 : decode b_Mo_readField 306 = .ok (.aload_n 0, 1) := by decide +kernel
theorem d_Mo_readField_307 : decode b_Mo_readField 307 = .ok (.bipush 10, 2) := by decide +kernel
theorem d_Mo_readField_309 : decode b_Mo_readField 309 = .ok (.aload_n 0, 1) := by decide +kernel
theorem d_Mo_readField_310 : decode b_Mo_readField 310 = .ok (.getfield 105, 3) := by decide +kernel
theorem d_Mo_readField_313 : decode b_Mo_readField 313 = .ok (.imul, 1) := by decide +kernel
theorem d_Mo_readField_314 : decode b_Mo_readField 314 = .ok (.aload_n 0, 1) := by decide +kernel
theorem d_Mo_readField_315 : decode b_Mo_readField 315 = .ok (.aload_n 0, 1) := by decide +kernel
theorem d_Mo_readField_316 : decode b_Mo_readField 316 = .ok (.getfield 99, 3) := by decide +kernel
theorem d_Mo_readField_319 : decode b_Mo_readField 319 = .ok (.invokevirtual 102, 3) := by decide +kernel
theorem d_Mo_readField_322 : decode b_Mo_readField 322 = .ok (.iadd, 1) := by decide +kernel
theorem d_Mo_readField_323 : decode b_Mo_readField 323 = .ok (.bipush 48, 2) := by decide +kernel
theorem d_Mo_readField_325 : decode b_Mo_readField 325 = .ok (.isub, 1) := by decide +kernel
theorem d_Mo_readField_326 : decode b_Mo_readField 326 = .ok (.putfield 105, 3) := by decide +kernel
theorem d_Mo_readField_329 : decode b_Mo_readField 329 = .ok (.aload_n 0, 1) := by decide +kernel
theorem d_Mo_readField_330 : decode b_Mo_readField 330 = .ok (.dup, 1) := by decide +kernel
theorem d_Mo_readField_331 : decode b_Mo_readField 331 = .ok (.getfield 99, 3) := by decide +kernel
theorem d_Mo_readField_334 : decode b_Mo_readField 334 = .ok (.iconst 1, 1) := by decide +kernel
theorem d_Mo_readField_335 : decode b_Mo_readField 335 = .ok (.iadd, 1) := by decide +kernel
theorem d_Mo_readField_336 : decode b_Mo_readField 336 = .ok (.putfield 99, 3) := by decide +kernel
theorem d_Mo_readField_339 : decode b_Mo_readField 339 = .ok (.iinc 1 1, 3) := by decide +kernel
theorem d_Mo_readField_342 : decode b_Mo_readField 342 = .ok (.goto (-55), 3) := by decide +kernel
theorem d_Mo_readField_345 : decode b_Mo_readField 345 = .ok (.aload_n 0, 1) := by decide +kernel
theorem d_Mo_readField_346 : decode b_Mo_readField 346 = .ok (.iconst (-1), 1) := by decide +kernel
theorem d_Mo_readField_347 : decode b_Mo_readField 347 = .ok (.putfield 108, 3) := by decide +kernel
theorem d_Mo_readField_350 : decode b_Mo_readField 350 = .ok (.aload_n 0, 1) := by decide +kernel
theorem d_Mo_readField_351 : decode b_Mo_readField 351 = .ok (.aload_n 0, 1) := by decide +kernel
theorem d_Mo_readField_352 : decode b_Mo_readField 352 = .ok (.getfield 99, 3) := by decide +kernel
theorem d_Mo_readField_355 : decode b_Mo_readField 355 = .ok (.invokevirtual 102, 3) := by decide +kernel
theorem d_Mo_readField_358 : decode b_Mo_readField 358 = .ok (.bipush 46, 2) := by decide +kernel
theorem d_Mo_readField_360 : decode b_Mo_readField 360 = .ok (.if_icmp .ne 110, 3) := by decide +kernel
theorem d_Mo_readField_363 : decode b_Mo_readField 363 = .ok (.aload_n 0, 1) := by decide +kernel
theorem d_Mo_readField_364 : decode b_Mo_readField 364 = .ok (.dup, 1) := by decide +kernel
theorem d_Mo_readField_365 : decode b_Mo_readField 365 = .ok (.getfield 99, 3) := by decide +kernel
theorem d_Mo_readField_368 : decode b_Mo_readField 368 = .ok (.iconst 1, 1) := by decide +kernel
theorem d_Mo_readField_369 : decode b_Mo_readField 369 = .ok (.iadd, 1) := by decide +kernel
theorem d_Mo_readField_370 : decode b_Mo_readField 370 = .ok (.putfield 99, 3) := by decide +kernel
theorem d_Mo_readField_373 : decode b_Mo_readField 373 = .ok (.aload_n 0, 1) := by decide +kernel
theorem d_Mo_readField_374 : decode b_Mo_readField 374 = .ok (.iconst 0, 1) := by decide +kernel
theorem d_Mo_readField_375 : decode b_Mo_readField 375 = .ok (.putfield 108, 3) := by decide +kernel
theorem d_Mo_readField_378 : decode b_Mo_readField 378 = .ok (.aload_n 0, 1) := by decide +kernel
theorem d_Mo_readField_379 : decode b_Mo_readField 379 = .ok (.aload_n 0, 1) := by decide +kernel
theorem d_Mo_readField_380 : decode b_Mo_readField 380 = .ok (.getfield 99, 3) := by decide +kernel
theorem d_Mo_readField_383 : decode b_Mo_readField 383 = .ok (.invokevirtual 102, 3) := by decide +kernel
theorem d_Mo_readField_386 : decode b_Mo_readField 386 = .ok (.bipush 42, 2) := by decide +kernel
theorem d_Mo_readField_388 : decode b_Mo_readField 388 = .ok (.if_icmp .ne 22, 3) := by decide +kernel
theorem d_Mo_readField_391 : decode b_Mo_readField 391 = .ok (.aload_n 0, 1) := by decide +kernel
theorem d_Mo_readField_392 : decode b_Mo_readField 392 = .ok (.bipush (-2), 2) := by decide +kernel
theorem d_Mo_readField_394 : decode b_Mo_readField 394 = .ok (.putfield 108, 3) := by decide +kernel
theorem d_Mo_readField_397 : decode b_Mo_readField 397 = .ok (.aload_n 0, 1) := by decide +kernel
theorem d_Mo_readField_398 : decode b_Mo_readField 398 = .ok (.dup, 1) := by decide +kernel
theorem d_Mo_readField_399 : decode b_Mo_readField 399 = .ok (.getfield 99, 3) := by decide +kernel
theorem d_Mo_readField_402 : decode b_Mo_readField 402 = .ok (.iconst 1, 1) := by decide +kernel
theorem d_Mo_readField_403 : decode b_Mo_readField 403 = .ok (.iadd, 1) := by decide +kernel
theorem d_Mo_readField_404 : decode b_Mo_readField 404 = .ok (.putfield 99, 3) := by decide +kernel
theorem d_Mo_readField_407 : decode b_Mo_readField 407 = .ok (.goto 63, 3) := by decide +kernel
theorem d_Mo_readField_410 : decode b_Mo_readField 410 = .ok (.iconst 0, 1) := by decide +kernel
theorem d_Mo_readField_411 : decode b_Mo_readField 411 = .ok (.istore_n 1, 1) := by decide +kernel
theorem d_Mo_readField_412 : decode b_Mo_readField 412 = .ok (.iload_n 1, 1) := by decide +kernel
theorem d_Mo_readField_413 : decode b_Mo_readField 413 = .ok (.iconst 2, 1) := by decide +kernel
theorem d_Mo_readField_414 : decode b_Mo_readField 414 = .ok (.if_icmp .ge 56, 3) := by decide +kernel
theorem d_Mo_readField_417 : decode b_Mo_readField 417 = .ok (.aload_n 0, 1) := by decide +kernel
theorem d_Mo_readField_418 : decode b_Mo_readField 418 = .ok (.aload_n 0, 1) := by decide +kernel
theorem d_Mo_readField_419 : decode b_Mo_readField 419 = .ok (.getfield 99, 3) := by decide +kernel
theorem d_Mo_readField_422 : decode b_Mo_readField 422 = .ok (.invokevirtual 102, 3) := by decide +kernel
theorem d_Mo_readField_425 : decode b_Mo_readField 425 = .ok (.invokestatic 68, 3) := by decide +kernel
theorem d_Mo_readField_428 : decode b_Mo_readField 428 = .ok (.ifCond .eq 42, 3) := by decide +kernel
theorem d_Mo_readField_431 : decode b_Mo_readField 431 = .ok (.aload_n 0, 1) := by decide +kernel
theorem d_Mo_readField_432 : decode b_Mo_readField 432 = .ok (.bipush 10, 2) := by decide +kernel
theorem d_Mo_readField_434 : decode b_Mo_readField 434 = .ok (.aload_n 0, 1) := by decide +kernel
theorem d_Mo_readField_435 : decode b_Mo_readField 435 = .ok (.getfield 108, 3) := by decide +kernel
theorem d_Mo_readField_438 : decode b_Mo_readField 438 = .ok (.imul, 1) := by decide +kernel
theorem d_Mo_readField_439 : decode b_Mo_readField 439 = .ok (.aload_n 0, 1) := by decide +kernel
theorem d_Mo_readField_440 : decode b_Mo_readField 440 = .ok (.aload_n 0, 1) := by decide +kernel
theorem d_Mo_readField_441 : decode b_Mo_readField 441 = .ok (.getfield 99, 3) := by decide +kernel
theorem d_Mo_readField_444 : decode b_Mo_readField 444 = .ok (.invokevirtual 102, 3) := by decide +kernel
theorem d_Mo_readField_447 : decode b_Mo_readField 447 = .ok (.iadd, 1) := by decide +kernel
theorem d_Mo_readField_448 : decode b_Mo_readField 448 = .ok (.bipush 48, 2) := by decide +kernel
theorem d_Mo_readField_450 : decode b_Mo_readField 450 = .ok (.isub, 1) := by decide +kernel
theorem d_Mo_readField_451 : decode b_Mo_readField 451 = .ok (.putfield 108, 3) := by decide +kernel
theorem d_Mo_readField_454 : decode b_Mo_readField 454 = .ok (.aload_n 0, 1) := by decide +kernel
theorem d_Mo_readField_455 : decode b_Mo_readField 455 = .ok (.dup, 1) := by decide +kernel
theorem d_Mo_readField_456 : decode b_Mo_readField 456 = .ok (.getfield 99, 3) := by decide +kernel
theorem d_Mo_readField_459 : decode b_Mo_readField 459 = .ok (.iconst 1, 1) := by decide +kernel
theorem d_Mo_readField_460 : decode b_Mo_readField 460 = .ok (.iadd, 1) := by decide +kernel
theorem d_Mo_readField_461 : decode b_Mo_readField 461 = .ok (.putfield 99, 3) := by decide +kernel
theorem d_Mo_readField_464 : decode b_Mo_readField 464 = .ok (.iinc 1 1, 3) := by decide +kernel
theorem d_Mo_readField_467 : decode b_Mo_readField 467 = .ok (.goto (-55), 3) := by decide +kernel
theorem d_Mo_readField_470 : decode b_Mo_readField 470 = .ok (.aload_n 0, 1) := by decide +kernel
theorem d_Mo_readField_471 : decode b_Mo_readField 471 = .ok (.aload_n 0, 1) := by decide +kernel
theorem d_Mo_readField_472 : decode b_Mo_readField 472 = .ok (.aload_n 0, 1) := by decide +kernel
theorem d_Mo_readField_473 : decode b_Mo_readField 473 = .ok (.getfield 99, 3) := by decide +kernel
theorem d_Mo_readField_476 : decode b_Mo_readField 476 = .ok (.invokevirtual 102, 3) := by decide +kernel
theorem d_Mo_readField_479 : decode b_Mo_readField 479 = .ok (.putfield 111, 3) := by decide +kernel
theorem d_Mo_readField_482 : decode b_Mo_readField 482 = .ok (.aload_n 0, 1) := by decide +kernel
theorem d_Mo_readField_483 : decode b_Mo_readField 483 = .ok (.dup, 1) := by decide +kernel
theorem d_Mo_readField_484 : decode b_Mo_readField 484 = .ok (.getfield 99, 3) := by decide +kernel
theorem d_Mo_readField_487 : decode b_Mo_readField 487 = .ok (.iconst 1, 1) := by decide +kernel
theorem d_Mo_readField_488 : decode b_Mo_readField 488 = .ok (.iadd, 1) := by decide +kernel
theorem d_Mo_readField_489 : decode b_Mo_readField 489 = .ok (.putfield 99, 3) := by decide +kernel
theorem d_Mo_readField_492 : decode b_Mo_readField 492 = .ok (.aload_n 0, 1) := by decide +kernel
theorem d_Mo_readField_493 : decode b_Mo_readField 493 = .ok (.getfield 111, 3) := by decide +kernel
theorem d_Mo_readField_496 : decode b_Mo_readField 496 = .ok (.invokestatic 114, 3) := by decide +kernel
theorem d_Mo_readField_499 : decode b_Mo_readField 499 = .ok (.ireturn, 1) := by decide +kernel
theorem d_Mo_fillField_0 : decode b_Mo_fillField 0 = .ok (.aload_n 0, 1) := by decide +kernel
theorem d_Mo_fillField_1 : decode b_Mo_fillField 1 = .ok (.getfield 105, 3) := by decide +kernel
theorem d_Mo_fillField_4 : decode b_Mo_fillField 4 = .ok (.bipush (-2), 2) := by decide +kernel
theorem d_Mo_fillField_6 : decode b_Mo_fillField 6 = .ok (.if_icmp .ne 58, 3) := by decide +kernel
theorem d_Mo_fillField_9 : decode b_Mo_fillField 9 = .ok (.aload_n 0, 1) := by decide +kernel
theorem d_Mo_fillField_10 : decode b_Mo_fillField 10 = .ok (.invokevirtual 152, 3) := by decide +kernel
theorem d_Mo_fillField_13 : decode b_Mo_fillField 13 = .ok (.ifCond .ne 5, 3) := by decide +kernel
theorem d_Mo_fillField_16 : decode b_Mo_fillField 16 = .ok (.iconst 0, 1) := by decide +kernel
theorem d_Mo_fillField_17 : decode b_Mo_fillField 17 = .ok (.ireturn, 1) := by decide +kernel
theorem d_Mo_fillField_18 : decode b_Mo_fillField 18 = .ok (.aload_n 0, 1) := by decide +kernel
theorem d_Mo_fillField_19 : decode b_Mo_fillField 19 = .ok (.aload_n 0, 1) := by decide +kernel
theorem d_Mo_fillField_20 : decode b_Mo_fillField 20 = .ok (.getfield 83, 3) := by decide +kernel
theorem d_Mo_fillField_23 : decode b_Mo_fillField 23 = .ok (.ifCond .ne 10, 3) := by decide +kernel
theorem d_Mo_fillField_26 : decode b_Mo_fillField 26 = .ok (.aload_n 0, 1) := by decide +kernel
theorem d_Mo_fillField_27 : decode b_Mo_fillField 27 = .ok (.getfield 149, 3) := by decide +kernel
theorem d_Mo_fillField_30 : decode b_Mo_fillField 30 = .ok (.ifCond .ge 7, 3) := by decide +kernel
theorem d_Mo_fillField_33 : decode b_Mo_fillField 33 = .ok (.iconst 1, 1) := by decide +kernel
theorem d_Mo_fillField_34 : decode b_Mo_fillField 34 = .ok (.goto 4, 3) := by decide +kernel
theorem d_Mo_fillField_37 : decode b_Mo_fillField 37 = .ok (.iconst 0, 1) := by decide +kernel
theorem d_Mo_fillField_38 : decode b_Mo_fillField 38 = .ok (.putfield 83, 3) := by decide +kernel
theorem d_Mo_fillField_41 : decode b_Mo_fillField 41 = .ok (.aload_n 0, 1) := by decide +kernel
theorem d_Mo_fillField_42 : decode b_Mo_fillField 42 = .ok (.aload_n 0, 1) := by decide +kernel
theorem d_Mo_fillField_43 : decode b_Mo_fillField 43 = .ok (.getfield 149, 3) := by decide +kernel
theorem d_Mo_fillField_46 : decode b_Mo_fillField 46 = .ok (.ifCond .ge 11, 3) := by decide +kernel
theorem d_Mo_fillField_49 : decode b_Mo_fillField 49 = .ok (.aload_n 0, 1) := by decide +kernel
theorem d_Mo_fillField_50 : decode b_Mo_fillField 50 = .ok (.getfield 149, 3) := by decide +kernel
theorem d_Mo_fillField_53 : decode b_Mo_fillField 53 = .ok (.ineg, 1) := by decide +kernel
theorem d_Mo_fillField_54 : decode b_Mo_fillField 54 = .ok (.goto 7, 3) := by decide +kernel
theorem d_Mo_fillField_57 : decode b_Mo_fillField 57 = .ok (.aload_n 0, 1) := by decide +kernel
theorem d_Mo_fillField_58 : decode b_Mo_fillField 58 = .ok (.getfield 149, 3) := by decide +kernel
theorem d_Mo_fillField_61 : decode b_Mo_fillField 61 = .ok (.putfield 105, 3) := by decide +kernel
theorem d_Mo_fillField_64 : decode b_Mo_fillField 64 = .ok (.aload_n 0, 1) := by decide +kernel
theorem d_Mo_fillField_65 : decode b_Mo_fillField 65 = .ok (.getfield 108, 3) := by decide +kernel
theorem d_Mo_fillField_68 : decode b_Mo_fillField 68 = .ok (.bipush (-2), 2) := by decide +kernel
theorem d_Mo_fillField_70 : decode b_Mo_fillField 70 = .ok (.if_icmp .ne 31, 3) := by decide +kernel
theorem d_Mo_fillField_73 : decode b_Mo_fillField 73 = .ok (.aload_n 0, 1) := by decide +kernel
theorem d_Mo_fillField_74 : decode b_Mo_fillField 74 = .ok (.invokevirtual 152, 3) := by decide +kernel
theorem d_Mo_fillField_77 : decode b_Mo_fillField 77 = .ok (.ifCond .ne 5, 3) := by decide +kernel
theorem d_Mo_fillField_80 : decode b_Mo_fillField 80 = .ok (.iconst 0, 1) := by decide +kernel
theorem d_Mo_fillField_81 : decode b_Mo_fillField 81 = .ok (.ireturn, 1) := by decide +kernel
theorem d_Mo_fillField_82 : decode b_Mo_fillField 82 = .ok (.aload_n 0, 1) := by decide +kernel
theorem d_Mo_fillField_83 : decode b_Mo_fillField 83 = .ok (.aload_n 0, 1) := by decide +kernel
theorem d_Mo_fillField_84 : decode b_Mo_fillField 84 = .ok (.getfield 149, 3) := by decide +kernel
theorem d_Mo_fillField_87 : decode b_Mo_fillField 87 = .ok (.ifCond .ge 7, 3) := by decide +kernel
theorem d_Mo_fillField_90 : decode b_Mo_fillField 90 = .ok (.iconst (-1), 1) := by decide +kernel
theorem d_Mo_fillField_91 : decode b_Mo_fillField 91 = .ok (.goto 7, 3) := by decide +kernel
theorem d_Mo_fillField_94 : decode b_Mo_fillField 94 = .ok (.aload_n 0, 1) := by decide +kernel
theorem d_Mo_fillField_95 : decode b_Mo_fillField 95 = .ok (.getfield 149, 3) := by decide +kernel
theorem d_Mo_fillField_98 : decode b_Mo_fillField 98 = .ok (.putfield 108, 3) := by decide +kernel
theorem d_Mo_fillField_101 : decode b_Mo_fillField 101 = .ok (.aload_n 0, 1) := by decide +kernel
theorem d_Mo_fillField_102 : decode b_Mo_fillField 102 = .ok (.getfield 138, 3) := by decide +kernel
theorem d_Mo_fillField_105 : decode b_Mo_fillField 105 = .ok (.aload_n 0, 1) := by decide +kernel
theorem d_Mo_fillField_106 : decode b_Mo_fillField 106 = .ok (.getfield 65, 3) := by decide +kernel
theorem d_Mo_fillField_109 : decode b_Mo_fillField 109 = .ok (.if_icmp .ne 13, 3) := by decide +kernel
theorem d_Mo_fillField_112 : decode b_Mo_fillField 112 = .ok (.aload_n 0, 1) := by decide +kernel
theorem d_Mo_fillField_113 : decode b_Mo_fillField 113 = .ok (.iconst 2, 1) := by decide +kernel
theorem d_Mo_fillField_114 : decode b_Mo_fillField 114 = .ok (.aload_n 0, 1) := by decide +kernel
theorem d_Mo_fillField_115 : decode b_Mo_fillField 115 = .ok (.getfield 123, 3) := by decide +kernel
theorem d_Mo_fillField_118 : decode b_Mo_fillField 118 = .ok (.invokevirtual 129, 3) := by decide +kernel
theorem d_Mo_fillField_121 : decode b_Mo_fillField 121 = .ok (.ireturn, 1) := by decide +kernel
theorem d_Mo_fillField_122 : decode b_Mo_fillField 122 = .ok (.aload_n 0, 1) := by decide +kernel
theorem d_Mo_fillField_123 : decode b_Mo_fillField 123 = .ok (.getfield 138, 3) := by decide +kernel
theorem d_Mo_fillField_126 : decode b_Mo_fillField 126 = .ok (.istore_n 1, 1) := by decide +kernel
theorem d_Mo_fillField_127 : decode b_Mo_fillField 127 = .ok (.aload_n 0, 1) := by decide +kernel
theorem d_Mo_fillField_128 : decode b_Mo_fillField 128 = .ok (.getfield 111, 3) := by decide +kernel
theorem d_Mo_fillField_131 : decode b_Mo_fillField 131 = .ok (.bipush 115, 2) := by decide +kernel
theorem d_Mo_fillField_133 : decode b_Mo_fillField 133 = .ok (.if_icmp .eq 12, 3) := by decide +kernel
theorem d_Mo_fillField_136 : decode b_Mo_fillField 136 = .ok (.aload_n 0, 1) := by decide +kernel
theorem d_Mo_fillField_137 : decode b_Mo_fillField 137 = .ok (.getfield 111, 3) := by decide +kernel
theorem d_Mo_fillField_140 : decode b_Mo_fillField 140 = .ok (.bipush 113, 2) := by decide +kernel
theorem d_Mo_fillField_142 : decode b_Mo_fillField 142 = .ok (.if_icmp .ne 7, 3) := by decide +kernel
theorem d_Mo_fillField_145 : decode b_Mo_fillField 145 = .ok (.iconst 1, 1) := by decide +kernel
theorem d_Mo_fillField_146 : decode b_Mo_fillField 146 = .ok (.goto 4, 3) := by decide +kernel
theorem d_Mo_fillField_149 : decode b_Mo_fillField 149 = .ok (.iconst 0, 1) := by decide +kernel
theorem d_Mo_fillField_150 : decode b_Mo_fillField 150 = .ok (.istore_n 2, 1) := by decide +kernel
theorem d_Mo_fillField_151 : decode b_Mo_fillField 151 = .ok (.aload_n 0, 1) := by decide +kernel
theorem d_Mo_fillField_152 : decode b_Mo_fillField 152 = .ok (.getfield 111, 3) := by decide +kernel
theorem d_Mo_fillField_155 : decode b_Mo_fillField 155 = .ok (.bipush 99, 2) := by decide +kernel
theorem d_Mo_fillField_157 : decode b_Mo_fillField 157 = .ok (.if_icmp .ne 53, 3) := by decide +kernel
theorem d_Mo_fillField_160 : decode b_Mo_fillField 160 = .ok (.aload_n 0, 1) := by decide +kernel
theorem d_Mo_fillField_161 : decode b_Mo_fillField 161 = .ok (.getfield 13, 3) := by decide +kernel
theorem d_Mo_fillField_164 : decode b_Mo_fillField 164 = .ok (.iload_n 1, 1) := by decide +kernel
theorem d_Mo_fillField_165 : decode b_Mo_fillField 165 = .ok (.baload, 1) := by decide +kernel
theorem d_Mo_fillField_166 : decode b_Mo_fillField 166 = .ok (.ifCond .eq 16, 3) := by decide +kernel
theorem d_Mo_fillField_169 : decode b_Mo_fillField 169 = .ok (.aload_n 0, 1) := by decide +kernel
theorem d_Mo_fillField_170 : decode b_Mo_fillField 170 = .ok (.getfield 17, 3) := by decide +kernel
theorem d_Mo_fillField_173 : decode b_Mo_fillField 173 = .ok (.iload_n 1, 1) := by decide +kernel
theorem d_Mo_fillField_174 : decode b_Mo_fillField 174 = .ok (.iaload, 1) := by decide +kernel
theorem d_Mo_fillField_175 : decode b_Mo_fillField 175 = .ok (.iconst 1, 1) := by decide +kernel
theorem d_Mo_fillField_176 : decode b_Mo_fillField 176 = .ok (.if_icmp .ne 34, 3) := by decide +kernel
theorem d_Mo_fillField_179 : decode b_Mo_fillField 179 = .ok (.goto 27, 3) := by decide +kernel
theorem d_Mo_fillField_182 : decode b_Mo_fillField 182 = .ok (.aload_n 0, 1) := by decide +kernel
theorem d_Mo_fillField_183 : decode b_Mo_fillField 183 = .ok (.iload_n 1, 1) := by decide +kernel
theorem d_Mo_fillField_184 : decode b_Mo_fillField 184 = .ok (.invokevirtual 141, 3) := by decide +kernel
theorem d_Mo_fillField_187 : decode b_Mo_fillField 187 = .ok (.ldc2_w 155, 3) := by decide +kernel
theorem d_Mo_fillField_190 : decode b_Mo_fillField 190 = .ok (.lcmp, 1) := by decide +kernel
theorem d_Mo_fillField_191 : decode b_Mo_fillField 191 = .ok (.ifCond .lt 19, 3) := by decide +kernel
theorem d_Mo_fillField_194 : decode b_Mo_fillField 194 = .ok (.aload_n 0, 1) := by decide +kernel
theorem d_Mo_fillField_195 : decode b_Mo_fillField 195 = .ok (.iload_n 1, 1) := by decide +kernel
theorem d_Mo_fillField_196 : decode b_Mo_fillField 196 = .ok (.invokevirtual 141, 3) := by decide +kernel
theorem d_Mo_fillField_199 : decode b_Mo_fillField 199 = .ok (.ldc2_w 157, 3) := by decide +kernel
theorem d_Mo_fillField_202 : decode b_Mo_fillField 202 = .ok (.lcmp, 1) := by decide +kernel
theorem d_Mo_fillField_203 : decode b_Mo_fillField 203 = .ok (.ifCond .gt 7, 3) := by decide +kernel
theorem d_Mo_fillField_206 : decode b_Mo_fillField 206 = .ok (.iconst 1, 1) := by decide +kernel
theorem d_Mo_fillField_207 : decode b_Mo_fillField 207 = .ok (.goto 4, 3) := by decide +kernel
theorem d_Mo_fillField_210 : decode b_Mo_fillField 210 = .ok (.iconst 0, 1) := by decide +kernel
theorem d_Mo_fillField_211 : decode b_Mo_fillField 211 = .ok (.istore_n 3, 1) := by decide +kernel
theorem d_Mo_fillField_212 : decode b_Mo_fillField 212 = .ok (.aload_n 0, 1) := by decide +kernel
theorem d_Mo_fillField_213 : decode b_Mo_fillField 213 = .ok (.getfield 111, 3) := by decide +kernel
theorem d_Mo_fillField_216 : decode b_Mo_fillField 216 = .ok (.bipush 99, 2) := by decide +kernel
theorem d_Mo_fillField_218 : decode b_Mo_fillField 218 = .ok (.if_icmp .ne 10, 3) := by decide +kernel
theorem d_Mo_fillField_221 : decode b_Mo_fillField 221 = .ok (.iload_n 3, 1) := by decide +kernel
theorem d_Mo_fillField_222 : decode b_Mo_fillField 222 = .ok (.ifCond .ne 29, 3) := by decide +kernel
theorem d_Mo_fillField_225 : decode b_Mo_fillField 225 = .ok (.goto 16, 3) := by decide +kernel
theorem d_Mo_fillField_228 : decode b_Mo_fillField 228 = .ok (.iload_n 2, 1) := by decide +kernel
theorem d_Mo_fillField_229 : decode b_Mo_fillField 229 = .ok (.ifCond .ne 22, 3) := by decide +kernel
theorem d_Mo_fillField_232 : decode b_Mo_fillField 232 = .ok (.aload_n 0, 1) := by decide +kernel
theorem d_Mo_fillField_233 : decode b_Mo_fillField 233 = .ok (.getfield 13, 3) := by decide +kernel
theorem d_Mo_fillField_236 : decode b_Mo_fillField 236 = .ok (.iload_n 1, 1) := by decide +kernel
theorem d_Mo_fillField_237 : decode b_Mo_fillField 237 = .ok (.baload, 1) := by decide +kernel
theorem d_Mo_fillField_238 : decode b_Mo_fillField 238 = .ok (.ifCond .eq 13, 3) := by decide +kernel
theorem d_Mo_fillField_241 : decode b_Mo_fillField 241 = .ok (.aload_n 0, 1) := by decide +kernel
theorem d_Mo_fillField_242 : decode b_Mo_fillField 242 = .ok (.iconst 3, 1) := by decide +kernel
theorem d_Mo_fillField_243 : decode b_Mo_fillField 243 = .ok (.aload_n 0, 1) := by decide +kernel
theorem d_Mo_fillField_244 : decode b_Mo_fillField 244 = .ok (.getfield 123, 3) := by decide +kernel
theorem d_Mo_fillField_247 : decode b_Mo_fillField 247 = .ok (.invokevirtual 129, 3) := by decide +kernel
theorem d_Mo_fillField_250 : decode b_Mo_fillField 250 = .ok (.ireturn, 1) := by decide +kernel
theorem d_Mo_fillField_251 : decode b_Mo_fillField 251 = .ok (.aload_n 0, 1) := by decide +kernel
theorem d_Mo_fillField_252 : decode b_Mo_fillField 252 = .ok (.dup, 1) := by decide +kernel
theorem d_Mo_fillField_253 : decode b_Mo_fillField 253 = .ok (.getfield 138, 3) := by decide +kernel
theorem d_Mo_fillField_256 : decode b_Mo_fillField 256 = .ok (.iconst 1, 1) := by decide +kernel
theorem d_Mo_fillField_257 : decode b_Mo_fillField 257 = .ok (.iadd, 1) := by decide +kernel
theorem d_Mo_fillField_258 : decode b_Mo_fillField 258 = .ok (.putfield 138, 3) := by decide +kernel
theorem d_Mo_fillField_261 : decode b_Mo_fillField 261 = .ok (.aload_n 0, 1) := by decide +kernel
theorem d_Mo_fillField_262 : decode b_Mo_fillField 262 = .ok (.iconst 0, 1) := by decide +kernel
theorem d_Mo_fillField_263 : decode b_Mo_fillField 263 = .ok (.putfield 159, 3) := by decide +kernel
theorem d_Mo_fillField_266 : decode b_Mo_fillField 266 = .ok (.aload_n 0, 1) := by decide +kernel
theorem d_Mo_fillField_267 : decode b_Mo_fillField 267 = .ok (.iconst 0, 1) := by decide +kernel
theorem d_Mo_fillField_268 : decode b_Mo_fillField 268 = .ok (.putfield 162, 3) := by decide +kernel
theorem d_Mo_fillField_271 : decode b_Mo_fillField 271 = .ok (.iload_n 2, 1) := by decide +kernel
theorem d_Mo_fillField_272 : decode b_Mo_fillField 272 = .ok (.ifCond .eq 11, 3) := by decide +kernel
theorem d_Mo_fillField_275 : decode b_Mo_fillField 275 = .ok (.aload_n 0, 1) := by decide +kernel
theorem d_Mo_fillField_276 : decode b_Mo_fillField 276 = .ok (.iload_n 1, 1) := by decide +kernel
theorem d_Mo_fillField_277 : decode b_Mo_fillField 277 = .ok (.invokevirtual 165, 3) := by decide +kernel
theorem d_Mo_fillField_280 : decode b_Mo_fillField 280 = .ok (.goto 104, 3) := by decide +kernel
theorem d_Mo_fillField_283 : decode b_Mo_fillField 283 = .ok (.aload_n 0, 1) := by decide +kernel
theorem d_Mo_fillField_284 : decode b_Mo_fillField 284 = .ok (.getfield 111, 3) := by decide +kernel
theorem d_Mo_fillField_287 : decode b_Mo_fillField 287 = .ok (.bipush 99, 2) := by decide +kernel
theorem d_Mo_fillField_289 : decode b_Mo_fillField 289 = .ok (.if_icmp .ne 37, 3) := by decide +kernel
theorem d_Mo_fillField_292 : decode b_Mo_fillField 292 = .ok (.aload_n 0, 1) := by decide +kernel
theorem d_Mo_fillField_293 : decode b_Mo_fillField 293 = .ok (.aload_n 0, 1) := by decide +kernel
theorem d_Mo_fillField_294 : decode b_Mo_fillField 294 = .ok (.getfield 13, 3) := by decide +kernel
theorem d_Mo_fillField_297 : decode b_Mo_fillField 297 = .ok (.iload_n 1, 1) := by decide +kernel
theorem d_Mo_fillField_298 : decode b_Mo_fillField 298 = .ok (.baload, 1) := by decide +kernel
theorem d_Mo_fillField_299 : decode b_Mo_fillField 299 = .ok (.ifCond .eq 15, 3) := by decide +kernel
theorem d_Mo_fillField_302 : decode b_Mo_fillField 302 = .ok (.aload_n 0, 1) := by decide +kernel
theorem d_Mo_fillField_303 : decode b_Mo_fillField 303 = .ok (.getfield 20, 3) := by decide +kernel
theorem d_Mo_fillField_306 : decode b_Mo_fillField 306 = .ok (.bipush 60, 2) := by decide +kernel
theorem d_Mo_fillField_308 : decode b_Mo_fillField 308 = .ok (.iload_n 1, 1) := by decide +kernel
theorem d_Mo_fillField_309 : decode b_Mo_fillField 309 = .ok (.imul, 1) := by decide +kernel
theorem d_Mo_fillField_310 : decode b_Mo_fillField 310 = .ok (.iaload, 1) := by decide +kernel
theorem d_Mo_fillField_311 : decode b_Mo_fillField 311 = .ok (.goto 9, 3) := by decide +kernel
theorem d_Mo_fillField_314 : decode b_Mo_fillField 314 = .ok (.aload_n 0, 1) := by decide +kernel
theorem d_Mo_fillField_315 : decode b_Mo_fillField 315 = .ok (.iload_n 1, 1) := by decide +kernel
theorem d_Mo_fillField_316 : decode b_Mo_fillField 316 = .ok (.invokevirtual 141, 3) := by decide +kernel
theorem d_Mo_fillField_319 : decode b_Mo_fillField 319 = .ok (.l2i, 1) := by decide +kernel
theorem d_Mo_fillField_320 : decode b_Mo_fillField 320 = .ok (.invokevirtual 169, 3) := by decide +kernel
theorem d_Mo_fillField_323 : decode b_Mo_fillField 323 = .ok (.goto 61, 3) := by decide +kernel
theorem d_Mo_fillField_326 : decode b_Mo_fillField 326 = .ok (.aload_n 0, 1) := by decide +kernel
theorem d_Mo_fillField_327 : decode b_Mo_fillField 327 = .ok (.getfield 111, 3) := by decide +kernel
theorem d_Mo_fillField_330 : decode b_Mo_fillField 330 = .ok (.bipush 102, 2) := by decide +kernel
theorem d_Mo_fillField_332 : decode b_Mo_fillField 332 = .ok (.if_icmp .eq 39, 3) := by decide +kernel
theorem d_Mo_fillField_335 : decode b_Mo_fillField 335 = .ok (.aload_n 0, 1) := by decide +kernel
theorem d_Mo_fillField_336 : decode b_Mo_fillField 336 = .ok (.getfield 111, 3) := by decide +kernel
theorem d_Mo_fillField_339 : decode b_Mo_fillField 339 = .ok (.bipush 101, 2) := by decide +kernel
theorem d_Mo_fillField_341 : decode b_Mo_fillField 341 = .ok (.if_icmp .eq 30, 3) := by decide +kernel
theorem d_Mo_fillField_344 : decode b_Mo_fillField 344 = .ok (.aload_n 0, 1) := by decide +kernel
theorem d_Mo_fillField_345 : decode b_Mo_fillField 345 = .ok (.getfield 111, 3) := by decide +kernel
theorem d_Mo_fillField_348 : decode b_Mo_fillField 348 = .ok (.bipush 69, 2) := by decide +kernel
theorem d_Mo_fillField_350 : decode b_Mo_fillField 350 = .ok (.if_icmp .eq 21, 3) := by decide +kernel
theorem d_Mo_fillField_353 : decode b_Mo_fillField 353 = .ok (.aload_n 0, 1) := by decide +kernel
theorem d_Mo_fillField_354 : decode b_Mo_fillField 354 = .ok (.getfield 111, 3) := by decide +kernel
theorem d_Mo_fillField_357 : decode b_Mo_fillField 357 = .ok (.bipush 103, 2) := by decide +kernel
theorem d_Mo_fillField_359 : decode b_Mo_fillField 359 = .ok (.if_icmp .eq 12, 3) := by decide +kernel
theorem d_Mo_fillField_362 : decode b_Mo_fillField 362 = .ok (.aload_n 0, 1) := by decide +kernel
theorem d_Mo_fillField_363 : decode b_Mo_fillField 363 = .ok (.getfield 111, 3) := by decide +kernel
theorem d_Mo_fillField_366 : decode b_Mo_fillField 366 = .ok (.bipush 71, 2) := by decide +kernel
theorem d_Mo_fillField_368 : decode b_Mo_fillField 368 = .ok (.if_icmp .ne 11, 3) := by decide +kernel
theorem d_Mo_fillField_371 : decode b_Mo_fillField 371 = .ok (.aload_n 0, 1) := by decide +kernel
theorem d_Mo_fillField_372 : decode b_Mo_fillField 372 = .ok (.iload_n 1, 1) := by decide +kernel
theorem d_Mo_fillField_373 : decode b_Mo_fillField 373 = .ok (.invokevirtual 172, 3) := by decide +kernel
theorem d_Mo_fillField_376 : decode b_Mo_fillField 376 = .ok (.goto 8, 3) := by decide +kernel
theorem d_Mo_fillField_379 : decode b_Mo_fillField 379 = .ok (.aload_n 0, 1) := by decide +kernel
theorem d_Mo_fillField_380 : decode b_Mo_fillField 380 = .ok (.iload_n 1, 1) := by decide +kernel
theorem d_Mo_fillField_381 : decode b_Mo_fillField 381 = .ok (.invokevirtual 175, 3) := by decide +kernel
theorem d_Mo_fillField_384 : decode b_Mo_fillField 384 = .ok (.aload_n 0, 1) := by decide +kernel
theorem d_Mo_fillField_385 : decode b_Mo_fillField 385 = .ok (.iload_n 2, 1) := by decide +kernel
theorem d_Mo_fillField_386 : decode b_Mo_fillField 386 = .ok (.ifCond .ne 12, 3) := by decide +kernel
theorem d_Mo_fillField_389 : decode b_Mo_fillField 389 = .ok (.aload_n 0, 1) := by decide +kernel
theorem d_Mo_fillField_390 : decode b_Mo_fillField 390 = .ok (.getfield 111, 3) := by decide +kernel
theorem d_Mo_fillField_393 : decode b_Mo_fillField 393 = .ok (.bipush 99, 2) := by decide +kernel
theorem d_Mo_fillField_395 : decode b_Mo_fillField 395 = .ok (.if_icmp .ne 7, 3) := by decide +kernel
theorem d_Mo_fillField_398 : decode b_Mo_fillField 398 = .ok (.iconst 1, 1) := by decide +kernel
theorem d_Mo_fillField_399 : decode b_Mo_fillField 399 = .ok (.goto 4, 3) := by decide +kernel
theorem d_Mo_fillField_402 : decode b_Mo_fillField 402 = .ok (.iconst 0, 1) := by decide +kernel
theorem d_Mo_fillField_403 : decode b_Mo_fillField 403 = .ok (.invokevirtual 178, 3) := by decide +kernel
theorem d_Mo_fillField_406 : decode b_Mo_fillField 406 = .ok (.ireturn, 1) := by decide +kernel
theorem d_Mo_takeStar_0 : decode b_Mo_takeStar 0 = .ok (.aload_n 0, 1) := by decide +kernel
theorem d_Mo_takeStar_1 : decode b_Mo_takeStar 1 = .ok (.getfield 138, 3) := by decide +kernel
theorem d_Mo_takeStar_4 : decode b_Mo_takeStar 4 = .ok (.aload_n 0, 1) := by decide +kernel
theorem d_Mo_takeStar_5 : decode b_Mo_takeStar 5 = .ok (.getfield 65, 3) := by decide +kernel
theorem d_Mo_takeStar_8 : decode b_Mo_takeStar 8 = .ok (.if_icmp .ne 13, 3) := by decide +kernel
theorem d_Mo_takeStar_11 : decode b_Mo_takeStar 11 = .ok (.aload_n 0, 1) := by decide +kernel
theorem d_Mo_takeStar_12 : decode b_Mo_takeStar 12 = .ok (.iconst 2, 1) := by decide +kernel
theorem d_Mo_takeStar_13 : decode b_Mo_takeStar 13 = .ok (.aload_n 0, 1) := by decide +kernel
theorem d_Mo_takeStar_14 : decode b_Mo_takeStar 14 = .ok (.getfield 123, 3) := by decide +kernel
theorem d_Mo_takeStar_17 : decode b_Mo_takeStar 17 = .ok (.invokevirtual 129, 3) := by decide +kernel
theorem d_Mo_takeStar_20 : decode b_Mo_takeStar 20 = .ok (.ireturn, 1) := by decide +kernel
theorem d_Mo_takeStar_21 : decode b_Mo_takeStar 21 = .ok (.aload_n 0, 1) := by decide +kernel
theorem d_Mo_takeStar_22 : decode b_Mo_takeStar 22 = .ok (.getfield 13, 3) := by decide +kernel
theorem d_Mo_takeStar_25 : decode b_Mo_takeStar 25 = .ok (.aload_n 0, 1) := by decide +kernel
theorem d_Mo_takeStar_26 : decode b_Mo_takeStar 26 = .ok (.getfield 138, 3) := by decide +kernel
theorem d_Mo_takeStar_29 : decode b_Mo_takeStar 29 = .ok (.baload, 1) := by decide +kernel
theorem d_Mo_takeStar_30 : decode b_Mo_takeStar 30 = .ok (.ifCond .ne 37, 3) := by decide +kernel
theorem d_Mo_takeStar_33 : decode b_Mo_takeStar 33 = .ok (.aload_n 0, 1) := by decide +kernel
theorem d_Mo_takeStar_34 : decode b_Mo_takeStar 34 = .ok (.aload_n 0, 1) := by decide +kernel
theorem d_Mo_takeStar_35 : decode b_Mo_takeStar 35 = .ok (.getfield 138, 3) := by decide +kernel
theorem d_Mo_takeStar_38 : decode b_Mo_takeStar 38 = .ok (.invokevirtual 141, 3) := by decide +kernel
theorem d_Mo_takeStar_41 : decode b_Mo_takeStar 41 = .ok (.ldc2_w 145, 3) := by decide +kernel
theorem d_Mo_takeStar_44 : decode b_Mo_takeStar 44 = .ok (.lcmp, 1) := by decide +kernel
theorem d_Mo_takeStar_45 : decode b_Mo_takeStar 45 = .ok (.ifCond .lt 22, 3) := by decide +kernel
theorem d_Mo_takeStar_48 : decode b_Mo_takeStar 48 = .ok (.aload_n 0, 1) := by decide +kernel
theorem d_Mo_takeStar_49 : decode b_Mo_takeStar 49 = .ok (.aload_n 0, 1) := by decide +kernel
theorem d_Mo_takeStar_50 : decode b_Mo_takeStar 50 = .ok (.getfield 138, 3) := by decide +kernel
theorem d_Mo_takeStar_53 : decode b_Mo_takeStar 53 = .ok (.invokevirtual 141, 3) := by decide +kernel
theorem d_Mo_takeStar_56 : decode b_Mo_takeStar 56 = .ok (.ldc2_w 147, 3) := by decide +kernel
theorem d_Mo_takeStar_59 : decode b_Mo_takeStar 59 = .ok (.lcmp, 1) := by decide +kernel
theorem d_Mo_takeStar_60 : decode b_Mo_takeStar 60 = .ok (.ifCond .gt 7, 3) := by decide +kernel
theorem d_Mo_takeStar_63 : decode b_Mo_takeStar 63 = .ok (.iconst 1, 1) := by decide +kernel
theorem d_Mo_takeStar_64 : decode b_Mo_takeStar 64 = .ok (.goto 4, 3) := by decide +kernel
theorem d_Mo_takeStar_67 : decode b_Mo_takeStar 67 = .ok (.iconst 0, 1) := by decide +kernel
theorem d_Mo_takeStar_68 : decode b_Mo_takeStar 68 = .ok (.istore_n 1, 1) := by decide +kernel
theorem d_Mo_takeStar_69 : decode b_Mo_takeStar 69 = .ok (.iload_n 1, 1) := by decide +kernel
theorem d_Mo_takeStar_70 : decode b_Mo_takeStar 70 = .ok (.ifCond .ne 13, 3) := by decide +kernel
theorem d_Mo_takeStar_73 : decode b_Mo_takeStar 73 = .ok (.aload_n 0, 1) := by decide +kernel
theorem d_Mo_takeStar_74 : decode b_Mo_takeStar 74 = .ok (.iconst 3, 1) := by decide +kernel
theorem d_Mo_takeStar_75 : decode b_Mo_takeStar 75 = .ok (.aload_n 0, 1) := by decide +kernel
theorem d_Mo_takeStar_76 : decode b_Mo_takeStar 76 = .ok (.getfield 123, 3) := by decide +kernel
theorem d_Mo_takeStar_79 : decode b_Mo_takeStar 79 = .ok (.invokevirtual 129, 3) := by decide +kernel
theorem d_Mo_takeStar_82 : decode b_Mo_takeStar 82 = .ok (.ireturn, 1) := by decide +kernel
theorem d_Mo_takeStar_83 : decode b_Mo_takeStar 83 = .ok (.aload_n 0, 1) := by decide +kernel
theorem d_Mo_takeStar_84 : decode b_Mo_takeStar 84 = .ok (.aload_n 0, 1) := by decide +kernel
theorem d_Mo_takeStar_85 : decode b_Mo_takeStar 85 = .ok (.aload_n 0, 1) := by decide +kernel
theorem d_Mo_takeStar_86 : decode b_Mo_takeStar 86 = .ok (.getfield 138, 3) := by decide +kernel
theorem d_Mo_takeStar_89 : decode b_Mo_takeStar 89 = .ok (.invokevirtual 141, 3) := by decide +kernel
theorem d_Mo_takeStar_92 : decode b_Mo_takeStar 92 = .ok (.l2i, 1) := by decide +kernel
theorem d_Mo_takeStar_93 : decode b_Mo_takeStar 93 = .ok (.putfield 149, 3) := by decide +kernel
theorem d_Mo_takeStar_96 : decode b_Mo_takeStar 96 = .ok (.aload_n 0, 1) := by decide +kernel
theorem d_Mo_takeStar_97 : decode b_Mo_takeStar 97 = .ok (.dup, 1) := by decide +kernel
theorem d_Mo_takeStar_98 : decode b_Mo_takeStar 98 = .ok (.getfield 138, 3) := by decide +kernel
theorem d_Mo_takeStar_101 : decode b_Mo_takeStar 101 = .ok (.iconst 1, 1) := by decide +kernel
theorem d_Mo_takeStar_102 : decode b_Mo_takeStar 102 = .ok (.iadd, 1) := by decide +kernel
theorem d_Mo_takeStar_103 : decode b_Mo_takeStar 103 = .ok (.putfield 138, 3) := by decide +kernel
theorem d_Mo_takeStar_106 : decode b_Mo_takeStar 106 = .ok (.iconst 1, 1) := by decide +kernel
theorem d_Mo_takeStar_107 : decode b_Mo_takeStar 107 = .ok (.ireturn, 1) := by decide +kernel
theorem d_Mo_putWords_0 : decode b_Mo_putWords 0 = .ok (.aload_n 0, 1) := by decide +kernel
theorem d_Mo_putWords_1 : decode b_Mo_putWords 1 = .ok (.iload_n 1, 1) := by decide +kernel
theorem d_Mo_putWords_2 : decode b_Mo_putWords 2 = .ok (.invokevirtual 191, 3) := by decide +kernel
theorem d_Mo_putWords_5 : decode b_Mo_putWords 5 = .ok (.aload_n 0, 1) := by decide +kernel
theorem d_Mo_putWords_6 : decode b_Mo_putWords 6 = .ok (.getfield 108, 3) := by decide +kernel
theorem d_Mo_putWords_9 : decode b_Mo_putWords 9 = .ok (.iconst (-1), 1) := by decide +kernel
theorem d_Mo_putWords_10 : decode b_Mo_putWords 10 = .ok (.if_icmp .eq 14, 3) := by decide +kernel
theorem d_Mo_putWords_13 : decode b_Mo_putWords 13 = .ok (.aload_n 0, 1) := by decide +kernel
theorem d_Mo_putWords_14 : decode b_Mo_putWords 14 = .ok (.getfield 108, 3) := by decide +kernel
theorem d_Mo_putWords_17 : decode b_Mo_putWords 17 = .ok (.aload_n 0, 1) := by decide +kernel
theorem d_Mo_putWords_18 : decode b_Mo_putWords 18 = .ok (.getfield 185, 3) := by decide +kernel
theorem d_Mo_putWords_21 : decode b_Mo_putWords 21 = .ok (.if_icmp .le 10, 3) := by decide +kernel
theorem d_Mo_putWords_24 : decode b_Mo_putWords 24 = .ok (.aload_n 0, 1) := by decide +kernel
theorem d_Mo_putWords_25 : decode b_Mo_putWords 25 = .ok (.getfield 185, 3) := by decide +kernel
theorem d_Mo_putWords_28 : decode b_Mo_putWords 28 = .ok (.goto 7, 3) := by decide +kernel
theorem d_Mo_putWords_31 : decode b_Mo_putWords 31 = .ok (.aload_n 0, 1) := by decide +kernel
theorem d_Mo_putWords_32 : decode b_Mo_putWords 32 = .ok (.getfield 108, 3) := by decide +kernel
theorem d_Mo_putWords_35 : decode b_Mo_putWords 35 = .ok (.istore_n 2, 1) := by decide +kernel
theorem d_Mo_putWords_36 : decode b_Mo_putWords 36 = .ok (.aload_n 0, 1) := by decide +kernel
theorem d_Mo_putWords_37 : decode b_Mo_putWords 37 = .ok (.getfield 111, 3) := by decide +kernel
theorem d_Mo_putWords_40 : decode b_Mo_putWords 40 = .ok (.bipush 113, 2) := by decide +kernel
theorem d_Mo_putWords_42 : decode b_Mo_putWords 42 = .ok (.if_icmp .ne 9, 3) := by decide +kernel
theorem d_Mo_putWords_45 : decode b_Mo_putWords 45 = .ok (.aload_n 0, 1) := by decide +kernel
theorem d_Mo_putWords_46 : decode b_Mo_putWords 46 = .ok (.bipush 34, 2) := by decide +kernel
theorem d_Mo_putWords_48 : decode b_Mo_putWords 48 = .ok (.invokevirtual 169, 3) := by decide +kernel
theorem d_Mo_putWords_51 : decode b_Mo_putWords 51 = .ok (.iconst 0, 1) := by decide +kernel
theorem d_Mo_putWords_52 : decode b_Mo_putWords 52 = .ok (.istore_n 3, 1) := by decide +kernel
theorem d_Mo_putWords_53 : decode b_Mo_putWords 53 = .ok (.iload_n 3, 1) := by decide +kernel
theorem d_Mo_putWords_54 : decode b_Mo_putWords 54 = .ok (.iload_n 2, 1) := by decide +kernel
theorem d_Mo_putWords_55 : decode b_Mo_putWords 55 = .ok (.if_icmp .ge 56, 3) := by decide +kernel
theorem d_Mo_putWords_58 : decode b_Mo_putWords 58 = .ok (.aload_n 0, 1) := by decide +kernel
theorem d_Mo_putWords_59 : decode b_Mo_putWords 59 = .ok (.getfield 111, 3) := by decide +kernel
theorem d_Mo_putWords_62 : decode b_Mo_putWords 62 = .ok (.bipush 113, 2) := by decide +kernel
theorem d_Mo_putWords_64 : decode b_Mo_putWords 64 = .ok (.if_icmp .ne 31, 3) := by decide +kernel
theorem d_Mo_putWords_67 : decode b_Mo_putWords 67 = .ok (.aload_n 0, 1) := by decide +kernel
theorem d_Mo_putWords_68 : decode b_Mo_putWords 68 = .ok (.getfield 47, 3) := by decide +kernel
theorem d_Mo_putWords_71 : decode b_Mo_putWords 71 = .ok (.iload_n 3, 1) := by decide +kernel
theorem d_Mo_putWords_72 : decode b_Mo_putWords 72 = .ok (.iaload, 1) := by decide +kernel
theorem d_Mo_putWords_73 : decode b_Mo_putWords 73 = .ok (.bipush 34, 2) := by decide +kernel
theorem d_Mo_putWords_75 : decode b_Mo_putWords 75 = .ok (.if_icmp .eq 14, 3) := by decide +kernel
theorem d_Mo_putWords_78 : decode b_Mo_putWords 78 = .ok (.aload_n 0, 1) := by decide +kernel
theorem d_Mo_putWords_79 : decode b_Mo_putWords 79 = .ok (.getfield 47, 3) := by decide +kernel
theorem d_Mo_putWords_82 : decode b_Mo_putWords 82 = .ok (.iload_n 3, 1) := by decide +kernel
theorem d_Mo_putWords_83 : decode b_Mo_putWords 83 = .ok (.iaload, 1) := by decide +kernel
theorem d_Mo_putWords_84 : decode b_Mo_putWords 84 = .ok (.bipush 92, 2) := by decide +kernel
theorem d_Mo_putWords_86 : decode b_Mo_putWords 86 = .ok (.if_icmp .ne 9, 3) := by decide +kernel
theorem d_Mo_putWords_89 : decode b_Mo_putWords 89 = .ok (.aload_n 0, 1) := by decide +kernel
theorem d_Mo_putWords_90 : decode b_Mo_putWords 90 = .ok (.bipush 92, 2) := by decide +kernel
theorem d_Mo_putWords_92 : decode b_Mo_putWords 92 = .ok (.invokevirtual 169, 3) := by decide +kernel
theorem d_Mo_putWords_95 : decode b_Mo_putWords 95 = .ok (.aload_n 0, 1) := by decide +kernel
theorem d_Mo_putWords_96 : decode b_Mo_putWords 96 = .ok (.aload_n 0, 1) := by decide +kernel
theorem d_Mo_putWords_97 : decode b_Mo_putWords 97 = .ok (.getfield 47, 3) := by decide +kernel
theorem d_Mo_putWords_100 : decode b_Mo_putWords 100 = .ok (.iload_n 3, 1) := by decide +kernel
theorem d_Mo_putWords_101 : decode b_Mo_putWords 101 = .ok (.iaload, 1) := by decide +kernel
theorem d_Mo_putWords_102 : decode b_Mo_putWords 102 = .ok (.invokevirtual 169, 3) := by decide +kernel
theorem d_Mo_putWords_105 : decode b_Mo_putWords 105 = .ok (.iinc 3 1, 3) := by decide +kernel
theorem d_Mo_putWords_108 : decode b_Mo_putWords 108 = .ok (.goto (-55), 3) := by decide +kernel
theorem d_Mo_putWords_111 : decode b_Mo_putWords 111 = .ok (.aload_n 0, 1) := by decide +kernel
theorem d_Mo_putWords_112 : decode b_Mo_putWords 112 = .ok (.getfield 111, 3) := by decide +kernel
theorem d_Mo_putWords_115 : decode b_Mo_putWords 115 = .ok (.bipush 113, 2) := by decide +kernel
theorem d_Mo_putWords_117 : decode b_Mo_putWords 117 = .ok (.if_icmp .ne 9, 3) := by decide +kernel
theorem d_Mo_putWords_120 : decode b_Mo_putWords 120 = .ok (.aload_n 0, 1) := by decide +kernel
theorem d_Mo_putWords_121 : decode b_Mo_putWords 121 = .ok (.bipush 34, 2) := by decide +kernel
theorem d_Mo_putWords_123 : decode b_Mo_putWords 123 = .ok (.invokevirtual 169, 3) := by decide +kernel
theorem d_Mo_putWords_126 : decode b_Mo_putWords 126 = .ok (.return_, 1) := by decide +kernel
theorem d_Mo_makePlain_0 : decode b_Mo_makePlain 0 = .ok (.aload_n 0, 1) := by decide +kernel
theorem d_Mo_makePlain_1 : decode b_Mo_makePlain 1 = .ok (.iconst 0, 1) := by decide +kernel
theorem d_Mo_makePlain_2 : decode b_Mo_makePlain 2 = .ok (.putfield 185, 3) := by decide +kernel
theorem d_Mo_makePlain_5 : decode b_Mo_makePlain 5 = .ok (.aload_n 0, 1) := by decide +kernel
theorem d_Mo_makePlain_6 : decode b_Mo_makePlain 6 = .ok (.getfield 13, 3) := by decide +kernel
theorem d_Mo_makePlain_9 : decode b_Mo_makePlain 9 = .ok (.iload_n 1, 1) := by decide +kernel
theorem d_Mo_makePlain_10 : decode b_Mo_makePlain 10 = .ok (.baload, 1) := by decide +kernel
theorem d_Mo_makePlain_11 : decode b_Mo_makePlain 11 = .ok (.ifCond .eq 37, 3) := by decide +kernel
theorem d_Mo_makePlain_14 : decode b_Mo_makePlain 14 = .ok (.iconst 0, 1) := by decide +kernel
theorem d_Mo_makePlain_15 : decode b_Mo_makePlain 15 = .ok (.istore_n 2, 1) := by decide +kernel
theorem d_Mo_makePlain_16 : decode b_Mo_makePlain 16 = .ok (.iload_n 2, 1) := by decide +kernel
theorem d_Mo_makePlain_17 : decode b_Mo_makePlain 17 = .ok (.aload_n 0, 1) := by decide +kernel
theorem d_Mo_makePlain_18 : decode b_Mo_makePlain 18 = .ok (.getfield 17, 3) := by decide +kernel
theorem d_Mo_makePlain_21 : decode b_Mo_makePlain 21 = .ok (.iload_n 1, 1) := by decide +kernel
theorem d_Mo_makePlain_22 : decode b_Mo_makePlain 22 = .ok (.iaload, 1) := by decide +kernel
theorem d_Mo_makePlain_23 : decode b_Mo_makePlain 23 = .ok (.if_icmp .ge 24, 3) := by decide +kernel
theorem d_Mo_makePlain_26 : decode b_Mo_makePlain 26 = .ok (.aload_n 0, 1) := by decide +kernel
theorem d_Mo_makePlain_27 : decode b_Mo_makePlain 27 = .ok (.aload_n 0, 1) := by decide +kernel
theorem d_Mo_makePlain_28 : decode b_Mo_makePlain 28 = .ok (.getfield 20, 3) := by decide +kernel
theorem d_Mo_makePlain_31 : decode b_Mo_makePlain 31 = .ok (.bipush 60, 2) := by decide +kernel
theorem d_Mo_makePlain_33 : decode b_Mo_makePlain 33 = .ok (.iload_n 1, 1) := by decide +kernel
theorem d_Mo_makePlain_34 : decode b_Mo_makePlain 34 = .ok (.imul, 1) := by decide +kernel
theorem d_Mo_makePlain_35 : decode b_Mo_makePlain 35 = .ok (.iload_n 2, 1) := by decide +kernel
theorem d_Mo_makePlain_36 : decode b_Mo_makePlain 36 = .ok (.iadd, 1) := by decide +kernel
theorem d_Mo_makePlain_37 : decode b_Mo_makePlain 37 = .ok (.iaload, 1) := by decide +kernel
theorem d_Mo_makePlain_38 : decode b_Mo_makePlain 38 = .ok (.invokevirtual 188, 3) := by decide +kernel
theorem d_Mo_makePlain_41 : decode b_Mo_makePlain 41 = .ok (.iinc 2 1, 3) := by decide +kernel
theorem d_Mo_makePlain_44 : decode b_Mo_makePlain 44 = .ok (.goto (-28), 3) := by decide +kernel
theorem d_Mo_makePlain_47 : decode b_Mo_makePlain 47 = .ok (.return_, 1) := by decide +kernel
theorem d_Mo_makePlain_48 : decode b_Mo_makePlain 48 = .ok (.aload_n 0, 1) := by decide +kernel
theorem d_Mo_makePlain_49 : decode b_Mo_makePlain 49 = .ok (.getfield 32, 3) := by decide +kernel
theorem d_Mo_makePlain_52 : decode b_Mo_makePlain 52 = .ok (.iload_n 1, 1) := by decide +kernel
theorem d_Mo_makePlain_53 : decode b_Mo_makePlain 53 = .ok (.baload, 1) := by decide +kernel
theorem d_Mo_makePlain_54 : decode b_Mo_makePlain 54 = .ok (.ifCond .eq 9, 3) := by decide +kernel
theorem d_Mo_makePlain_57 : decode b_Mo_makePlain 57 = .ok (.aload_n 0, 1) := by decide +kernel
theorem d_Mo_makePlain_58 : decode b_Mo_makePlain 58 = .ok (.bipush 45, 2) := by decide +kernel
theorem d_Mo_makePlain_60 : decode b_Mo_makePlain 60 = .ok (.invokevirtual 188, 3) := by decide +kernel
theorem d_Mo_makePlain_63 : decode b_Mo_makePlain 63 = .ok (.iconst 0, 1) := by decide +kernel
theorem d_Mo_makePlain_64 : decode b_Mo_makePlain 64 = .ok (.istore_n 2, 1) := by decide +kernel
theorem d_Mo_makePlain_65 : decode b_Mo_makePlain 65 = .ok (.iload_n 2, 1) := by decide +kernel
theorem d_Mo_makePlain_66 : decode b_Mo_makePlain 66 = .ok (.aload_n 0, 1) := by decide +kernel
theorem d_Mo_makePlain_67 : decode b_Mo_makePlain 67 = .ok (.getfield 26, 3) := by decide +kernel
theorem d_Mo_makePlain_70 : decode b_Mo_makePlain 70 = .ok (.iload_n 1, 1) := by decide +kernel
theorem d_Mo_makePlain_71 : decode b_Mo_makePlain 71 = .ok (.iaload, 1) := by decide +kernel
theorem d_Mo_makePlain_72 : decode b_Mo_makePlain 72 = .ok (.iconst 1, 1) := by decide +kernel
theorem d_Mo_makePlain_73 : decode b_Mo_makePlain 73 = .ok (.isub, 1) := by decide +kernel
theorem d_Mo_makePlain_74 : decode b_Mo_makePlain 74 = .ok (.if_icmp .ge 23, 3) := by decide +kernel
theorem d_Mo_makePlain_77 : decode b_Mo_makePlain 77 = .ok (.aload_n 0, 1) := by decide +kernel
theorem d_Mo_makePlain_78 : decode b_Mo_makePlain 78 = .ok (.getfield 23, 3) := by decide +kernel
theorem d_Mo_makePlain_81 : decode b_Mo_makePlain 81 = .ok (.bipush 30, 2) := by decide +kernel
theorem d_Mo_makePlain_83 : decode b_Mo_makePlain 83 = .ok (.iload_n 1, 1) := by decide +kernel
theorem d_Mo_makePlain_84 : decode b_Mo_makePlain 84 = .ok (.imul, 1) := by decide +kernel
theorem d_Mo_makePlain_85 : decode b_Mo_makePlain 85 = .ok (.iload_n 2, 1) := by decide +kernel
theorem d_Mo_makePlain_86 : decode b_Mo_makePlain 86 = .ok (.iadd, 1) := by decide +kernel
theorem d_Mo_makePlain_87 : decode b_Mo_makePlain 87 = .ok (.iaload, 1) := by decide +kernel
theorem d_Mo_makePlain_88 : decode b_Mo_makePlain 88 = .ok (.ifCond .ne 9, 3) := by decide +kernel
theorem d_Mo_makePlain_91 : decode b_Mo_makePlain 91 = .ok (.iinc 2 1, 3) := by decide +kernel
theorem d_Mo_makePlain_94 : decode b_Mo_makePlain 94 = .ok (.goto (-29), 3) := by decide +kernel
theorem d_Mo_makePlain_97 : decode b_Mo_makePlain 97 = .ok (.iload_n 2, 1) := by decide +kernel
theorem d_Mo_makePlain_98 : decode b_Mo_makePlain 98 = .ok (.aload_n 0, 1) := by decide +kernel
theorem d_Mo_makePlain_99 : decode b_Mo_makePlain 99 = .ok (.getfield 26, 3) := by decide +kernel
theorem d_Mo_makePlain_102 : decode b_Mo_makePlain 102 = .ok (.iload_n 1, 1) := by decide +kernel
theorem d_Mo_makePlain_103 : decode b_Mo_makePlain 103 = .ok (.iaload, 1) := by decide +kernel
theorem d_Mo_makePlain_104 : decode b_Mo_makePlain 104 = .ok (.if_icmp .ge 27, 3) := by decide +kernel
theorem d_Mo_makePlain_107 : decode b_Mo_makePlain 107 = .ok (.aload_n 0, 1) := by decide +kernel
theorem d_Mo_makePlain_108 : decode b_Mo_makePlain 108 = .ok (.bipush 48, 2) := by decide +kernel
theorem d_Mo_makePlain_110 : decode b_Mo_makePlain 110 = .ok (.aload_n 0, 1) := by decide +kernel
theorem d_Mo_makePlain_111 : decode b_Mo_makePlain 111 = .ok (.getfield 23, 3) := by decide +kernel
theorem d_Mo_makePlain_114 : decode b_Mo_makePlain 114 = .ok (.bipush 30, 2) := by decide +kernel
theorem d_Mo_makePlain_116 : decode b_Mo_makePlain 116 = .ok (.iload_n 1, 1) := by decide +kernel
theorem d_Mo_makePlain_117 : decode b_Mo_makePlain 117 = .ok (.imul, 1) := by decide +kernel
theorem d_Mo_makePlain_118 : decode b_Mo_makePlain 118 = .ok (.iload_n 2, 1) := by decide +kernel
theorem d_Mo_makePlain_119 : decode b_Mo_makePlain 119 = .ok (.iadd, 1) := by decide +kernel
theorem d_Mo_makePlain_120 : decode b_Mo_makePlain 120 = .ok (.iaload, 1) := by decide +kernel
theorem d_Mo_makePlain_121 : decode b_Mo_makePlain 121 = .ok (.iadd, 1) := by decide +kernel
theorem d_Mo_makePlain_122 : decode b_Mo_makePlain 122 = .ok (.invokevirtual 188, 3) := by decide +kernel
theorem d_Mo_makePlain_125 : decode b_Mo_makePlain 125 = .ok (.iinc 2 1, 3) := by decide +kernel
theorem d_Mo_makePlain_128 : decode b_Mo_makePlain 128 = .ok (.goto (-31), 3) := by decide +kernel
theorem d_Mo_makePlain_131 : decode b_Mo_makePlain 131 = .ok (.aload_n 0, 1) := by decide +kernel
theorem d_Mo_makePlain_132 : decode b_Mo_makePlain 132 = .ok (.getfield 26, 3) := by decide +kernel
theorem d_Mo_makePlain_135 : decode b_Mo_makePlain 135 = .ok (.iload_n 1, 1) := by decide +kernel
theorem d_Mo_makePlain_136 : decode b_Mo_makePlain 136 = .ok (.iaload, 1) := by decide +kernel
theorem d_Mo_makePlain_137 : decode b_Mo_makePlain 137 = .ok (.aload_n 0, 1) := by decide +kernel
theorem d_Mo_makePlain_138 : decode b_Mo_makePlain 138 = .ok (.getfield 29, 3) := by decide +kernel
theorem d_Mo_makePlain_141 : decode b_Mo_makePlain 141 = .ok (.iload_n 1, 1) := by decide +kernel
theorem d_Mo_makePlain_142 : decode b_Mo_makePlain 142 = .ok (.iaload, 1) := by decide +kernel
theorem d_Mo_makePlain_143 : decode b_Mo_makePlain 143 = .ok (.iadd, 1) := by decide +kernel
theorem d_Mo_makePlain_144 : decode b_Mo_makePlain 144 = .ok (.istore_n 3, 1) := by decide +kernel
theorem d_Mo_makePlain_145 : decode b_Mo_makePlain 145 = .ok (.iload_n 3, 1) := by decide +kernel
theorem d_Mo_makePlain_146 : decode b_Mo_makePlain 146 = .ok (.aload_n 0, 1) := by decide +kernel
theorem d_Mo_makePlain_147 : decode b_Mo_makePlain 147 = .ok (.getfield 26, 3) := by decide +kernel
theorem d_Mo_makePlain_150 : decode b_Mo_makePlain 150 = .ok (.iload_n 1, 1) := by decide +kernel
theorem d_Mo_makePlain_151 : decode b_Mo_makePlain 151 = .ok (.iaload, 1) := by decide +kernel
theorem d_Mo_makePlain_152 : decode b_Mo_makePlain 152 = .ok (.if_icmp .le 25, 3) := by decide +kernel
theorem d_Mo_makePlain_155 : decode b_Mo_makePlain 155 = .ok (.aload_n 0, 1) := by decide +kernel
theorem d_Mo_makePlain_156 : decode b_Mo_makePlain 156 = .ok (.getfield 23, 3) := by decide +kernel
theorem d_Mo_makePlain_159 : decode b_Mo_makePlain 159 = .ok (.bipush 30, 2) := by decide +kernel
theorem d_Mo_makePlain_161 : decode b_Mo_makePlain 161 = .ok (.iload_n 1, 1) := by decide +kernel
theorem d_Mo_makePlain_162 : decode b_Mo_makePlain 162 = .ok (.imul, 1) := by decide +kernel
theorem d_Mo_makePlain_163 : decode b_Mo_makePlain 163 = .ok (.iload_n 3, 1) := by decide +kernel
theorem d_Mo_makePlain_164 : decode b_Mo_makePlain 164 = .ok (.iadd, 1) := by decide +kernel
theorem d_Mo_makePlain_165 : decode b_Mo_makePlain 165 = .ok (.iconst 1, 1) := by decide +kernel
theorem d_Mo_makePlain_166 : decode b_Mo_makePlain 166 = .ok (.isub, 1) := by decide +kernel
theorem d_Mo_makePlain_167 : decode b_Mo_makePlain 167 = .ok (.iaload, 1) := by decide +kernel
theorem d_Mo_makePlain_168 : decode b_Mo_makePlain 168 = .ok (.ifCond .ne 9, 3) := by decide +kernel
theorem d_Mo_makePlain_171 : decode b_Mo_makePlain 171 = .ok (.iinc 3 (-1), 3) := by decide +kernel
theorem d_Mo_makePlain_174 : decode b_Mo_makePlain 174 = .ok (.goto (-29), 3) := by decide +kernel
theorem d_Mo_makePlain_177 : decode b_Mo_makePlain 177 = .ok (.iload_n 3, 1) := by decide +kernel
theorem d_Mo_makePlain_178 : decode b_Mo_makePlain 178 = .ok (.aload_n 0, 1) := by decide +kernel
theorem d_Mo_makePlain_179 : decode b_Mo_makePlain 179 = .ok (.getfield 26, 3) := by decide +kernel
theorem d_Mo_makePlain_182 : decode b_Mo_makePlain 182 = .ok (.iload_n 1, 1) := by decide +kernel
theorem d_Mo_makePlain_183 : decode b_Mo_makePlain 183 = .ok (.iaload, 1) := by decide +kernel
theorem d_Mo_makePlain_184 : decode b_Mo_makePlain 184 = .ok (.if_icmp .le 9, 3) := by decide +kernel
theorem d_Mo_makePlain_187 : decode b_Mo_makePlain 187 = .ok (.aload_n 0, 1) := by decide +kernel
theorem d_Mo_makePlain_188 : decode b_Mo_makePlain 188 = .ok (.bipush 46, 2) := by decide +kernel
theorem d_Mo_makePlain_190 : decode b_Mo_makePlain 190 = .ok (.invokevirtual 188, 3) := by decide +kernel
theorem d_Mo_makePlain_193 : decode b_Mo_makePlain 193 = .ok (.aload_n 0, 1) := by decide +kernel
theorem d_Mo_makePlain_194 : decode b_Mo_makePlain 194 = .ok (.getfield 26, 3) := by decide +kernel
theorem d_Mo_makePlain_197 : decode b_Mo_makePlain 197 = .ok (.iload_n 1, 1) := by decide +kernel
theorem d_Mo_makePlain_198 : decode b_Mo_makePlain 198 = .ok (.iaload, 1) := by decide +kernel
theorem d_Mo_makePlain_199 : decode b_Mo_makePlain 199 = .ok (.istore_n 2, 1) := by decide +kernel
theorem d_Mo_makePlain_200 : decode b_Mo_makePlain 200 = .ok (.iload_n 2, 1) := by decide +kernel
theorem d_Mo_makePlain_201 : decode b_Mo_makePlain 201 = .ok (.iload_n 3, 1) := by decide +kernel
theorem d_Mo_makePlain_202 : decode b_Mo_makePlain 202 = .ok (.if_icmp .ge 27, 3) := by decide +kernel
theorem d_Mo_makePlain_205 : decode b_Mo_makePlain 205 = .ok (.aload_n 0, 1) := by decide +kernel
theorem d_Mo_makePlain_206 : decode b_Mo_makePlain 206 = .ok (.bipush 48, 2) := by decide +kernel
theorem d_Mo_makePlain_208 : decode b_Mo_makePlain 208 = .ok (.aload_n 0, 1) := by decide +kernel
theorem d_Mo_makePlain_209 : decode b_Mo_makePlain 209 = .ok (.getfield 23, 3) := by decide +kernel
theorem d_Mo_makePlain_212 : decode b_Mo_makePlain 212 = .ok (.bipush 30, 2) := by decide +kernel
theorem d_Mo_makePlain_214 : decode b_Mo_makePlain 214 = .ok (.iload_n 1, 1) := by decide +kernel
theorem d_Mo_makePlain_215 : decode b_Mo_makePlain 215 = .ok (.imul, 1) := by decide +kernel
theorem d_Mo_makePlain_216 : decode b_Mo_makePlain 216 = .ok (.iload_n 2, 1) := by decide +kernel
theorem d_Mo_makePlain_217 : decode b_Mo_makePlain 217 = .ok (.iadd, 1) := by decide +kernel
theorem d_Mo_makePlain_218 : decode b_Mo_makePlain 218 = .ok (.iaload, 1) := by decide +kernel
theorem d_Mo_makePlain_219 : decode b_Mo_makePlain 219 = .ok (.iadd, 1) := by decide +kernel
theorem d_Mo_makePlain_220 : decode b_Mo_makePlain 220 = .ok (.invokevirtual 188, 3) := by decide +kernel
theorem d_Mo_makePlain_223 : decode b_Mo_makePlain 223 = .ok (.iinc 2 1, 3) := by decide +kernel
theorem d_Mo_makePlain_226 : decode b_Mo_makePlain 226 = .ok (.goto (-26), 3) := by decide +kernel
theorem d_Mo_makePlain_229 : decode b_Mo_makePlain 229 = .ok (.return_, 1) := by decide +kernel
theorem d_Mo_putNumber_0 : decode b_Mo_putNumber 0 = .ok (.aload_n 0, 1) := by decide +kernel
theorem d_Mo_putNumber_1 : decode b_Mo_putNumber 1 = .ok (.aload_n 0, 1) := by decide +kernel
theorem d_Mo_putNumber_2 : decode b_Mo_putNumber 2 = .ok (.getfield 32, 3) := by decide +kernel
theorem d_Mo_putNumber_5 : decode b_Mo_putNumber 5 = .ok (.iload_n 1, 1) := by decide +kernel
theorem d_Mo_putNumber_6 : decode b_Mo_putNumber 6 = .ok (.baload, 1) := by decide +kernel
theorem d_Mo_putNumber_7 : decode b_Mo_putNumber 7 = .ok (.invokevirtual 194, 3) := by decide +kernel
theorem d_Mo_putNumber_10 : decode b_Mo_putNumber 10 = .ok (.aload_n 0, 1) := by decide +kernel
theorem d_Mo_putNumber_11 : decode b_Mo_putNumber 11 = .ok (.getfield 108, 3) := by decide +kernel
theorem d_Mo_putNumber_14 : decode b_Mo_putNumber 14 = .ok (.iconst (-1), 1) := by decide +kernel
theorem d_Mo_putNumber_15 : decode b_Mo_putNumber 15 = .ok (.if_icmp .ne 8, 3) := by decide +kernel
theorem d_Mo_putNumber_18 : decode b_Mo_putNumber 18 = .ok (.bipush 6, 2) := by decide +kernel
theorem d_Mo_putNumber_20 : decode b_Mo_putNumber 20 = .ok (.goto 7, 3) := by decide +kernel
theorem d_Mo_putNumber_23 : decode b_Mo_putNumber 23 = .ok (.aload_n 0, 1) := by decide +kernel
theorem d_Mo_putNumber_24 : decode b_Mo_putNumber 24 = .ok (.getfield 108, 3) := by decide +kernel
theorem d_Mo_putNumber_27 : decode b_Mo_putNumber 27 = .ok (.istore_n 2, 1) := by decide +kernel
theorem d_Mo_putNumber_28 : decode b_Mo_putNumber 28 = .ok (.aload_n 0, 1) := by decide +kernel
theorem d_Mo_putNumber_29 : decode b_Mo_putNumber 29 = .ok (.getfield 111, 3) := by decide +kernel
theorem d_Mo_putNumber_32 : decode b_Mo_putNumber 32 = .ok (.bipush 102, 2) := by decide +kernel
theorem d_Mo_putNumber_34 : decode b_Mo_putNumber 34 = .ok (.if_icmp .ne 14, 3) := by decide +kernel
theorem d_Mo_putNumber_37 : decode b_Mo_putNumber 37 = .ok (.aload_n 0, 1) := by decide +kernel
theorem d_Mo_putNumber_38 : decode b_Mo_putNumber 38 = .ok (.iload_n 1, 1) := by decide +kernel
theorem d_Mo_putNumber_39 : decode b_Mo_putNumber 39 = .ok (.iload_n 2, 1) := by decide +kernel
theorem d_Mo_putNumber_40 : decode b_Mo_putNumber 40 = .ok (.aload_n 0, 1) := by decide +kernel
theorem d_Mo_putNumber_41 : decode b_Mo_putNumber 41 = .ok (.getfield 93, 3) := by decide +kernel
theorem d_Mo_putNumber_44 : decode b_Mo_putNumber 44 = .ok (.invokevirtual 204, 3) := by decide +kernel
theorem d_Mo_putNumber_47 : decode b_Mo_putNumber 47 = .ok (.return_, 1) := by decide +kernel
theorem d_Mo_putNumber_48 : decode b_Mo_putNumber 48 = .ok (.aload_n 0, 1) := by decide +kernel
theorem d_Mo_putNumber_49 : decode b_Mo_putNumber 49 = .ok (.getfield 111, 3) := by decide +kernel
theorem d_Mo_putNumber_52 : decode b_Mo_putNumber 52 = .ok (.bipush 101, 2) := by decide +kernel
theorem d_Mo_putNumber_54 : decode b_Mo_putNumber 54 = .ok (.if_icmp .eq 12, 3) := by decide +kernel
theorem d_Mo_putNumber_57 : decode b_Mo_putNumber 57 = .ok (.aload_n 0, 1) := by decide +kernel
theorem d_Mo_putNumber_58 : decode b_Mo_putNumber 58 = .ok (.getfield 111, 3) := by decide +kernel
theorem d_Mo_putNumber_61 : decode b_Mo_putNumber 61 = .ok (.bipush 69, 2) := by decide +kernel
theorem d_Mo_putNumber_63 : decode b_Mo_putNumber 63 = .ok (.if_icmp .ne 15, 3) := by decide +kernel
theorem d_Mo_putNumber_66 : decode b_Mo_putNumber 66 = .ok (.aload_n 0, 1) := by decide +kernel
theorem d_Mo_putNumber_67 : decode b_Mo_putNumber 67 = .ok (.iload_n 1, 1) := by decide +kernel
theorem d_Mo_putNumber_68 : decode b_Mo_putNumber 68 = .ok (.iload_n 2, 1) := by decide +kernel
theorem d_Mo_putNumber_69 : decode b_Mo_putNumber 69 = .ok (.aload_n 0, 1) := by decide +kernel
theorem d_Mo_putNumber_70 : decode b_Mo_putNumber 70 = .ok (.getfield 93, 3) := by decide +kernel
theorem d_Mo_putNumber_73 : decode b_Mo_putNumber 73 = .ok (.iconst 0, 1) := by decide +kernel
theorem d_Mo_putNumber_74 : decode b_Mo_putNumber 74 = .ok (.invokevirtual 208, 3) := by decide +kernel
theorem d_Mo_putNumber_77 : decode b_Mo_putNumber 77 = .ok (.return_, 1) := by decide +kernel
theorem d_Mo_putNumber_78 : decode b_Mo_putNumber 78 = .ok (.iload_n 2, 1) := by decide +kernel
theorem d_Mo_putNumber_79 : decode b_Mo_putNumber 79 = .ok (.ifCond .ne 7, 3) := by decide +kernel
theorem d_Mo_putNumber_82 : decode b_Mo_putNumber 82 = .ok (.iconst 1, 1) := by decide +kernel
theorem d_Mo_putNumber_83 : decode b_Mo_putNumber 83 = .ok (.goto 4, 3) := by decide +kernel
theorem d_Mo_putNumber_86 : decode b_Mo_putNumber 86 = .ok (.iload_n 2, 1) := by decide +kernel
theorem d_Mo_putNumber_87 : decode b_Mo_putNumber 87 = .ok (.istore_n 2, 1) := by decide +kernel
theorem d_Mo_putNumber_88 : decode b_Mo_putNumber 88 = .ok (.aload_n 0, 1) := by decide +kernel
theorem d_Mo_putNumber_89 : decode b_Mo_putNumber 89 = .ok (.iload_n 1, 1) := by decide +kernel
theorem d_Mo_putNumber_90 : decode b_Mo_putNumber 90 = .ok (.iload_n 2, 1) := by decide +kernel
theorem d_Mo_putNumber_91 : decode b_Mo_putNumber 91 = .ok (.iconst 1, 1) := by decide +kernel
theorem d_Mo_putNumber_92 : decode b_Mo_putNumber 92 = .ok (.isub, 1) := by decide +kernel
theorem d_Mo_putNumber_93 : decode b_Mo_putNumber 93 = .ok (.invokevirtual 212, 3) := by decide +kernel
theorem d_Mo_putNumber_96 : decode b_Mo_putNumber 96 = .ok (.istore_n 3, 1) := by decide +kernel
theorem d_Mo_putNumber_97 : decode b_Mo_putNumber 97 = .ok (.iload_n 3, 1) := by decide +kernel
theorem d_Mo_putNumber_98 : decode b_Mo_putNumber 98 = .ok (.bipush (-4), 2) := by decide +kernel
theorem d_Mo_putNumber_100 : decode b_Mo_putNumber 100 = .ok (.if_icmp .lt 8, 3) := by decide +kernel
theorem d_Mo_putNumber_103 : decode b_Mo_putNumber 103 = .ok (.iload_n 3, 1) := by decide +kernel
theorem d_Mo_putNumber_104 : decode b_Mo_putNumber 104 = .ok (.iload_n 2, 1) := by decide +kernel
theorem d_Mo_putNumber_105 : decode b_Mo_putNumber 105 = .ok (.if_icmp .lt 28, 3) := by decide +kernel
theorem d_Mo_putNumber_108 : decode b_Mo_putNumber 108 = .ok (.aload_n 0, 1) := by decide +kernel
theorem d_Mo_putNumber_109 : decode b_Mo_putNumber 109 = .ok (.iload_n 1, 1) := by decide +kernel
theorem d_Mo_putNumber_110 : decode b_Mo_putNumber 110 = .ok (.iload_n 2, 1) := by decide +kernel
theorem d_Mo_putNumber_111 : decode b_Mo_putNumber 111 = .ok (.iconst 1, 1) := by decide +kernel
theorem d_Mo_putNumber_112 : decode b_Mo_putNumber 112 = .ok (.isub, 1) := by decide +kernel
theorem d_Mo_putNumber_113 : decode b_Mo_putNumber 113 = .ok (.aload_n 0, 1) := by decide +kernel
theorem d_Mo_putNumber_114 : decode b_Mo_putNumber 114 = .ok (.getfield 93, 3) := by decide +kernel
theorem d_Mo_putNumber_117 : decode b_Mo_putNumber 117 = .ok (.aload_n 0, 1) := by decide +kernel
theorem d_Mo_putNumber_118 : decode b_Mo_putNumber 118 = .ok (.getfield 93, 3) := by decide +kernel
theorem d_Mo_putNumber_121 : decode b_Mo_putNumber 121 = .ok (.ifCond .ne 7, 3) := by decide +kernel
theorem d_Mo_putNumber_124 : decode b_Mo_putNumber 124 = .ok (.iconst 1, 1) := by decide +kernel
theorem d_Mo_putNumber_125 : decode b_Mo_putNumber 125 = .ok (.goto 4, 3) := by decide +kernel
theorem d_Mo_putNumber_128 : decode b_Mo_putNumber 128 = .ok (.iconst 0, 1) := by decide +kernel
theorem d_Mo_putNumber_129 : decode b_Mo_putNumber 129 = .ok (.invokevirtual 208, 3) := by decide +kernel
theorem d_Mo_putNumber_132 : decode b_Mo_putNumber 132 = .ok (.return_, 1) := by decide +kernel
theorem d_Mo_putNumber_133 : decode b_Mo_putNumber 133 = .ok (.aload_n 0, 1) := by decide +kernel
theorem d_Mo_putNumber_134 : decode b_Mo_putNumber 134 = .ok (.iload_n 1, 1) := by decide +kernel
theorem d_Mo_putNumber_135 : decode b_Mo_putNumber 135 = .ok (.iload_n 2, 1) := by decide +kernel
theorem d_Mo_putNumber_136 : decode b_Mo_putNumber 136 = .ok (.iconst 1, 1) := by decide +kernel
theorem d_Mo_putNumber_137 : decode b_Mo_putNumber 137 = .ok (.isub, 1) := by decide +kernel
theorem d_Mo_putNumber_138 : decode b_Mo_putNumber 138 = .ok (.iload_n 3, 1) := by decide +kernel
theorem d_Mo_putNumber_139 : decode b_Mo_putNumber 139 = .ok (.isub, 1) := by decide +kernel
theorem d_Mo_putNumber_140 : decode b_Mo_putNumber 140 = .ok (.aload_n 0, 1) := by decide +kernel
theorem d_Mo_putNumber_141 : decode b_Mo_putNumber 141 = .ok (.getfield 93, 3) := by decide +kernel
theorem d_Mo_putNumber_144 : decode b_Mo_putNumber 144 = .ok (.invokevirtual 204, 3) := by decide +kernel
theorem d_Mo_putNumber_147 : decode b_Mo_putNumber 147 = .ok (.aload_n 0, 1) := by decide +kernel
theorem d_Mo_putNumber_148 : decode b_Mo_putNumber 148 = .ok (.getfield 93, 3) := by decide +kernel
theorem d_Mo_putNumber_151 : decode b_Mo_putNumber 151 = .ok (.ifCond .ne 12, 3) := by decide +kernel
theorem d_Mo_putNumber_154 : decode b_Mo_putNumber 154 = .ok (.aload_n 0, 1) := by decide +kernel
theorem d_Mo_putNumber_155 : decode b_Mo_putNumber 155 = .ok (.iload_n 2, 1) := by decide +kernel
theorem d_Mo_putNumber_156 : decode b_Mo_putNumber 156 = .ok (.iconst 1, 1) := by decide +kernel
theorem d_Mo_putNumber_157 : decode b_Mo_putNumber 157 = .ok (.isub, 1) := by decide +kernel
theorem d_Mo_putNumber_158 : decode b_Mo_putNumber 158 = .ok (.iload_n 3, 1) := by decide +kernel
theorem d_Mo_putNumber_159 : decode b_Mo_putNumber 159 = .ok (.isub, 1) := by decide +kernel
theorem d_Mo_putNumber_160 : decode b_Mo_putNumber 160 = .ok (.invokevirtual 216, 3) := by decide +kernel
theorem d_Mo_putNumber_163 : decode b_Mo_putNumber 163 = .ok (.return_, 1) := by decide +kernel
theorem d_Mo_fixed_0 : decode b_Mo_fixed 0 = .ok (.aload_n 0, 1) := by decide +kernel
theorem d_Mo_fixed_1 : decode b_Mo_fixed 1 = .ok (.iload_n 1, 1) := by decide +kernel
theorem d_Mo_fixed_2 : decode b_Mo_fixed 2 = .ok (.iload_n 2, 1) := by decide +kernel
theorem d_Mo_fixed_3 : decode b_Mo_fixed 3 = .ok (.invokevirtual 219, 3) := by decide +kernel
theorem d_Mo_fixed_6 : decode b_Mo_fixed 6 = .ok (.aload_n 0, 1) := by decide +kernel
theorem d_Mo_fixed_7 : decode b_Mo_fixed 7 = .ok (.aload_n 0, 1) := by decide +kernel
theorem d_Mo_fixed_8 : decode b_Mo_fixed 8 = .ok (.getfield 201, 3) := by decide +kernel
theorem d_Mo_fixed_11 : decode b_Mo_fixed 11 = .ok (.iload_n 2, 1) := by decide +kernel
theorem d_Mo_fixed_12 : decode b_Mo_fixed 12 = .ok (.iadd, 1) := by decide +kernel
theorem d_Mo_fixed_13 : decode b_Mo_fixed 13 = .ok (.invokevirtual 223, 3) := by decide +kernel
theorem d_Mo_fixed_16 : decode b_Mo_fixed 16 = .ok (.iconst 0, 1) := by decide +kernel
theorem d_Mo_fixed_17 : decode b_Mo_fixed 17 = .ok (.istore 4, 2) := by decide +kernel
theorem d_Mo_fixed_19 : decode b_Mo_fixed 19 = .ok (.iload 4, 2) := by decide +kernel
theorem d_Mo_fixed_21 : decode b_Mo_fixed 21 = .ok (.aload_n 0, 1) := by decide +kernel
theorem d_Mo_fixed_22 : decode b_Mo_fixed 22 = .ok (.getfield 201, 3) := by decide +kernel
theorem d_Mo_fixed_25 : decode b_Mo_fixed 25 = .ok (.iconst 1, 1) := by decide +kernel
theorem d_Mo_fixed_26 : decode b_Mo_fixed 26 = .ok (.isub, 1) := by decide +kernel
theorem d_Mo_fixed_27 : decode b_Mo_fixed 27 = .ok (.if_icmp .ge 19, 3) := by decide +kernel
theorem d_Mo_fixed_30 : decode b_Mo_fixed 30 = .ok (.aload_n 0, 1) := by decide +kernel
theorem d_Mo_fixed_31 : decode b_Mo_fixed 31 = .ok (.getfield 53, 3) := by decide +kernel
theorem d_Mo_fixed_34 : decode b_Mo_fixed 34 = .ok (.iload 4, 2) := by decide +kernel
theorem d_Mo_fixed_36 : decode b_Mo_fixed 36 = .ok (.iaload, 1) := by decide +kernel
theorem d_Mo_fixed_37 : decode b_Mo_fixed 37 = .ok (.ifCond .ne 9, 3) := by decide +kernel
theorem d_Mo_fixed_40 : decode b_Mo_fixed 40 = .ok (.iinc 4 1, 3) := by decide +kernel
theorem d_Mo_fixed_43 : decode b_Mo_fixed 43 = .ok (.goto (-24), 3) := by decide +kernel
theorem d_Mo_fixed_46 : decode b_Mo_fixed 46 = .ok (.iload 4, 2) := by decide +kernel
theorem d_Mo_fixed_48 : decode b_Mo_fixed 48 = .ok (.aload_n 0, 1) := by decide +kernel
theorem d_Mo_fixed_49 : decode b_Mo_fixed 49 = .ok (.getfield 201, 3) := by decide +kernel
theorem d_Mo_fixed_52 : decode b_Mo_fixed 52 = .ok (.if_icmp .ge 23, 3) := by decide +kernel
theorem d_Mo_fixed_55 : decode b_Mo_fixed 55 = .ok (.aload_n 0, 1) := by decide +kernel
theorem d_Mo_fixed_56 : decode b_Mo_fixed 56 = .ok (.bipush 48, 2) := by decide +kernel
theorem d_Mo_fixed_58 : decode b_Mo_fixed 58 = .ok (.aload_n 0, 1) := by decide +kernel
theorem d_Mo_fixed_59 : decode b_Mo_fixed 59 = .ok (.getfield 53, 3) := by decide +kernel
theorem d_Mo_fixed_62 : decode b_Mo_fixed 62 = .ok (.iload 4, 2) := by decide +kernel
theorem d_Mo_fixed_64 : decode b_Mo_fixed 64 = .ok (.iaload, 1) := by decide +kernel
theorem d_Mo_fixed_65 : decode b_Mo_fixed 65 = .ok (.iadd, 1) := by decide +kernel
theorem d_Mo_fixed_66 : decode b_Mo_fixed 66 = .ok (.invokevirtual 169, 3) := by decide +kernel
theorem d_Mo_fixed_69 : decode b_Mo_fixed 69 = .ok (.iinc 4 1, 3) := by decide +kernel
theorem d_Mo_fixed_72 : decode b_Mo_fixed 72 = .ok (.goto (-26), 3) := by decide +kernel
theorem d_Mo_fixed_75 : decode b_Mo_fixed 75 = .ok (.iload_n 2, 1) := by decide +kernel
theorem d_Mo_fixed_76 : decode b_Mo_fixed 76 = .ok (.ifCond .gt 7, 3) := by decide +kernel
theorem d_Mo_fixed_79 : decode b_Mo_fixed 79 = .ok (.iload_n 3, 1) := by decide +kernel
theorem d_Mo_fixed_80 : decode b_Mo_fixed 80 = .ok (.ifCond .eq 9, 3) := by decide +kernel
theorem d_Mo_fixed_83 : decode b_Mo_fixed 83 = .ok (.aload_n 0, 1) := by decide +kernel
theorem d_Mo_fixed_84 : decode b_Mo_fixed 84 = .ok (.bipush 46, 2) := by decide +kernel
theorem d_Mo_fixed_86 : decode b_Mo_fixed 86 = .ok (.invokevirtual 169, 3) := by decide +kernel
theorem d_Mo_fixed_89 : decode b_Mo_fixed 89 = .ok (.iload 4, 2) := by decide +kernel
theorem d_Mo_fixed_91 : decode b_Mo_fixed 91 = .ok (.aload_n 0, 1) := by decide +kernel
theorem d_Mo_fixed_92 : decode b_Mo_fixed 92 = .ok (.getfield 201, 3) := by decide +kernel
theorem d_Mo_fixed_95 : decode b_Mo_fixed 95 = .ok (.iload_n 2, 1) := by decide +kernel
theorem d_Mo_fixed_96 : decode b_Mo_fixed 96 = .ok (.iadd, 1) := by decide +kernel
theorem d_Mo_fixed_97 : decode b_Mo_fixed 97 = .ok (.if_icmp .ge 23, 3) := by decide +kernel
theorem d_Mo_fixed_100 : decode b_Mo_fixed 100 = .ok (.aload_n 0, 1) := by decide +kernel
theorem d_Mo_fixed_101 : decode b_Mo_fixed 101 = .ok (.bipush 48, 2) := by decide +kernel
theorem d_Mo_fixed_103 : decode b_Mo_fixed 103 = .ok (.aload_n 0, 1) := by decide +kernel
theorem d_Mo_fixed_104 : decode b_Mo_fixed 104 = .ok (.getfield 53, 3) := by decide +kernel
theorem d_Mo_fixed_107 : decode b_Mo_fixed 107 = .ok (.iload 4, 2) := by decide +kernel
theorem d_Mo_fixed_109 : decode b_Mo_fixed 109 = .ok (.iaload, 1) := by decide +kernel
theorem d_Mo_fixed_110 : decode b_Mo_fixed 110 = .ok (.iadd, 1) := by decide +kernel
theorem d_Mo_fixed_111 : decode b_Mo_fixed 111 = .ok (.invokevirtual 169, 3) := by decide +kernel
theorem d_Mo_fixed_114 : decode b_Mo_fixed 114 = .ok (.iinc 4 1, 3) := by decide +kernel
theorem d_Mo_fixed_117 : decode b_Mo_fixed 117 = .ok (.goto (-28), 3) := by decide +kernel
theorem d_Mo_fixed_120 : decode b_Mo_fixed 120 = .ok (.return_, 1) := by decide +kernel
theorem d_Mo_lift_0 : decode b_Mo_lift 0 = .ok (.aload_n 0, 1) := by decide +kernel
theorem d_Mo_lift_1 : decode b_Mo_lift 1 = .ok (.iconst 0, 1) := by decide +kernel
theorem d_Mo_lift_2 : decode b_Mo_lift 2 = .ok (.putfield 198, 3) := by decide +kernel
theorem d_Mo_lift_5 : decode b_Mo_lift 5 = .ok (.aload_n 0, 1) := by decide +kernel
theorem d_Mo_lift_6 : decode b_Mo_lift 6 = .ok (.getfield 53, 3) := by decide +kernel
theorem d_Mo_lift_9 : decode b_Mo_lift 9 = .ok (.iconst 0, 1) := by decide +kernel
theorem d_Mo_lift_10 : decode b_Mo_lift 10 = .ok (.iconst 0, 1) := by decide +kernel
theorem d_Mo_lift_11 : decode b_Mo_lift 11 = .ok (.iastore, 1) := by decide +kernel
theorem d_Mo_lift_12 : decode b_Mo_lift 12 = .ok (.aload_n 0, 1) := by decide +kernel
theorem d_Mo_lift_13 : decode b_Mo_lift 13 = .ok (.iconst 1, 1) := by decide +kernel
theorem d_Mo_lift_14 : decode b_Mo_lift 14 = .ok (.putfield 198, 3) := by decide +kernel
theorem d_Mo_lift_17 : decode b_Mo_lift 17 = .ok (.iconst 0, 1) := by decide +kernel
theorem d_Mo_lift_18 : decode b_Mo_lift 18 = .ok (.istore_n 3, 1) := by decide +kernel
theorem d_Mo_lift_19 : decode b_Mo_lift 19 = .ok (.iload_n 3, 1) := by decide +kernel
theorem d_Mo_lift_20 : decode b_Mo_lift 20 = .ok (.aload_n 0, 1) := by decide +kernel
theorem d_Mo_lift_21 : decode b_Mo_lift 21 = .ok (.getfield 26, 3) := by decide +kernel
theorem d_Mo_lift_24 : decode b_Mo_lift 24 = .ok (.iload_n 1, 1) := by decide +kernel
theorem d_Mo_lift_25 : decode b_Mo_lift 25 = .ok (.iaload, 1) := by decide +kernel
theorem d_Mo_lift_26 : decode b_Mo_lift 26 = .ok (.aload_n 0, 1) := by decide +kernel
theorem d_Mo_lift_27 : decode b_Mo_lift 27 = .ok (.getfield 29, 3) := by decide +kernel
theorem d_Mo_lift_30 : decode b_Mo_lift 30 = .ok (.iload_n 1, 1) := by decide +kernel
theorem d_Mo_lift_31 : decode b_Mo_lift 31 = .ok (.iaload, 1) := by decide +kernel
theorem d_Mo_lift_32 : decode b_Mo_lift 32 = .ok (.iadd, 1) := by decide +kernel
theorem d_Mo_lift_33 : decode b_Mo_lift 33 = .ok (.if_icmp .ge 39, 3) := by decide +kernel
theorem d_Mo_lift_36 : decode b_Mo_lift 36 = .ok (.aload_n 0, 1) := by decide +kernel
theorem d_Mo_lift_37 : decode b_Mo_lift 37 = .ok (.getfield 53, 3) := by decide +kernel
theorem d_Mo_lift_40 : decode b_Mo_lift 40 = .ok (.aload_n 0, 1) := by decide +kernel
theorem d_Mo_lift_41 : decode b_Mo_lift 41 = .ok (.getfield 198, 3) := by decide +kernel
theorem d_Mo_lift_44 : decode b_Mo_lift 44 = .ok (.aload_n 0, 1) := by decide +kernel
theorem d_Mo_lift_45 : decode b_Mo_lift 45 = .ok (.getfield 23, 3) := by decide +kernel
theorem d_Mo_lift_48 : decode b_Mo_lift 48 = .ok (.bipush 30, 2) := by decide +kernel
theorem d_Mo_lift_50 : decode b_Mo_lift 50 = .ok (.iload_n 1, 1) := by decide +kernel
theorem d_Mo_lift_51 : decode b_Mo_lift 51 = .ok (.imul, 1) := by decide +kernel
theorem d_Mo_lift_52 : decode b_Mo_lift 52 = .ok (.iload_n 3, 1) := by decide +kernel
theorem d_Mo_lift_53 : decode b_Mo_lift 53 = .ok (.iadd, 1) := by decide +kernel
theorem d_Mo_lift_54 : decode b_Mo_lift 54 = .ok (.iaload, 1) := by decide +kernel
theorem d_Mo_lift_55 : decode b_Mo_lift 55 = .ok (.iastore, 1) := by decide +kernel
theorem d_Mo_lift_56 : decode b_Mo_lift 56 = .ok (.aload_n 0, 1) := by decide +kernel
theorem d_Mo_lift_57 : decode b_Mo_lift 57 = .ok (.dup, 1) := by decide +kernel
theorem d_Mo_lift_58 : decode b_Mo_lift 58 = .ok (.getfield 198, 3) := by decide +kernel
theorem d_Mo_lift_61 : decode b_Mo_lift 61 = .ok (.iconst 1, 1) := by decide +kernel
theorem d_Mo_lift_62 : decode b_Mo_lift 62 = .ok (.iadd, 1) := by decide +kernel
theorem d_Mo_lift_63 : decode b_Mo_lift 63 = .ok (.putfield 198, 3) := by decide +kernel
theorem d_Mo_lift_66 : decode b_Mo_lift 66 = .ok (.iinc 3 1, 3) := by decide +kernel
theorem d_Mo_lift_69 : decode b_Mo_lift 69 = .ok (.goto (-50), 3) := by decide +kernel
theorem d_Mo_lift_72 : decode b_Mo_lift 72 = .ok (.aload_n 0, 1) := by decide +kernel
theorem d_Mo_lift_73 : decode b_Mo_lift 73 = .ok (.aload_n 0, 1) := by decide +kernel
theorem d_Mo_lift_74 : decode b_Mo_lift 74 = .ok (.getfield 26, 3) := by decide +kernel
theorem d_Mo_lift_77 : decode b_Mo_lift 77 = .ok (.iload_n 1, 1) := by decide +kernel
theorem d_Mo_lift_78 : decode b_Mo_lift 78 = .ok (.iaload, 1) := by decide +kernel
theorem d_Mo_lift_79 : decode b_Mo_lift 79 = .ok (.iconst 1, 1) := by decide +kernel
theorem d_Mo_lift_80 : decode b_Mo_lift 80 = .ok (.iadd, 1) := by decide +kernel
theorem d_Mo_lift_81 : decode b_Mo_lift 81 = .ok (.putfield 201, 3) := by decide +kernel
theorem d_Mo_lift_84 : decode b_Mo_lift 84 = .ok (.aload_n 0, 1) := by decide +kernel
theorem d_Mo_lift_85 : decode b_Mo_lift 85 = .ok (.getfield 198, 3) := by decide +kernel
theorem d_Mo_lift_88 : decode b_Mo_lift 88 = .ok (.aload_n 0, 1) := by decide +kernel
theorem d_Mo_lift_89 : decode b_Mo_lift 89 = .ok (.getfield 201, 3) := by decide +kernel
theorem d_Mo_lift_92 : decode b_Mo_lift 92 = .ok (.iload_n 2, 1) := by decide +kernel
theorem d_Mo_lift_93 : decode b_Mo_lift 93 = .ok (.iadd, 1) := by decide +kernel
theorem d_Mo_lift_94 : decode b_Mo_lift 94 = .ok (.if_icmp .ge 26, 3) := by decide +kernel
theorem d_Mo_lift_97 : decode b_Mo_lift 97 = .ok (.aload_n 0, 1) := by decide +kernel
theorem d_Mo_lift_98 : decode b_Mo_lift 98 = .ok (.getfield 53, 3) := by decide +kernel
theorem d_Mo_lift_101 : decode b_Mo_lift 101 = .ok (.aload_n 0, 1) := by decide +kernel
theorem d_Mo_lift_102 : decode b_Mo_lift 102 = .ok (.getfield 198, 3) := by decide +kernel
theorem d_Mo_lift_105 : decode b_Mo_lift 105 = .ok (.iconst 0, 1) := by decide +kernel
theorem d_Mo_lift_106 : decode b_Mo_lift 106 = .ok (.iastore, 1) := by decide +kernel
theorem d_Mo_lift_107 : decode b_Mo_lift 107 = .ok (.aload_n 0, 1) := by decide +kernel
theorem d_Mo_lift_108 : decode b_Mo_lift 108 = .ok (.dup, 1) := by decide +kernel
theorem d_Mo_lift_109 : decode b_Mo_lift 109 = .ok (.getfield 198, 3) := by decide +kernel
theorem d_Mo_lift_112 : decode b_Mo_lift 112 = .ok (.iconst 1, 1) := by decide +kernel
theorem d_Mo_lift_113 : decode b_Mo_lift 113 = .ok (.iadd, 1) := by decide +kernel
theorem d_Mo_lift_114 : decode b_Mo_lift 114 = .ok (.putfield 198, 3) := by decide +kernel
theorem d_Mo_lift_117 : decode b_Mo_lift 117 = .ok (.goto (-33), 3) := by decide +kernel
theorem d_Mo_lift_120 : decode b_Mo_lift 120 = .ok (.return_, 1) := by decide +kernel
theorem d_Mo_round_0 : decode b_Mo_round 0 = .ok (.iconst 0, 1) := by decide +kernel
theorem d_Mo_round_1 : decode b_Mo_round 1 = .ok (.istore_n 2, 1) := by decide +kernel
theorem d_Mo_round_2 : decode b_Mo_round 2 = .ok (.iload_n 1, 1) := by decide +kernel
theorem d_Mo_round_3 : decode b_Mo_round 3 = .ok (.iconst 1, 1) := by decide +kernel
theorem d_Mo_round_4 : decode b_Mo_round 4 = .ok (.iadd, 1) := by decide +kernel
theorem d_Mo_round_5 : decode b_Mo_round 5 = .ok (.istore_n 3, 1) := by decide +kernel
theorem d_Mo_round_6 : decode b_Mo_round 6 = .ok (.iload_n 3, 1) := by decide +kernel
theorem d_Mo_round_7 : decode b_Mo_round 7 = .ok (.aload_n 0, 1) := by decide +kernel
theorem d_Mo_round_8 : decode b_Mo_round 8 = .ok (.getfield 198, 3) := by decide +kernel
theorem d_Mo_round_11 : decode b_Mo_round 11 = .ok (.if_icmp .ge 28, 3) := by decide +kernel
theorem d_Mo_round_14 : decode b_Mo_round 14 = .ok (.iload_n 2, 1) := by decide +kernel
theorem d_Mo_round_15 : decode b_Mo_round 15 = .ok (.ifCond .ne 12, 3) := by decide +kernel
theorem d_Mo_round_18 : decode b_Mo_round 18 = .ok (.aload_n 0, 1) := by decide +kernel
theorem d_Mo_round_19 : decode b_Mo_round 19 = .ok (.getfield 53, 3) := by decide +kernel
theorem d_Mo_round_22 : decode b_Mo_round 22 = .ok (.iload_n 3, 1) := by decide +kernel
theorem d_Mo_round_23 : decode b_Mo_round 23 = .ok (.iaload, 1) := by decide +kernel
theorem d_Mo_round_24 : decode b_Mo_round 24 = .ok (.ifCond .le 7, 3) := by decide +kernel
theorem d_Mo_round_27 : decode b_Mo_round 27 = .ok (.iconst 1, 1) := by decide +kernel
theorem d_Mo_round_28 : decode b_Mo_round 28 = .ok (.goto 4, 3) := by decide +kernel
theorem d_Mo_round_31 : decode b_Mo_round 31 = .ok (.iconst 0, 1) := by decide +kernel
theorem d_Mo_round_32 : decode b_Mo_round 32 = .ok (.istore_n 2, 1) := by decide +kernel
theorem d_Mo_round_33 : decode b_Mo_round 33 = .ok (.iinc 3 1, 3) := by decide +kernel
theorem d_Mo_round_36 : decode b_Mo_round 36 = .ok (.goto (-30), 3) := by decide +kernel
theorem d_Mo_round_39 : decode b_Mo_round 39 = .ok (.iload_n 1, 1) := by decide +kernel
theorem d_Mo_round_40 : decode b_Mo_round 40 = .ok (.aload_n 0, 1) := by decide +kernel
theorem d_Mo_round_41 : decode b_Mo_round 41 = .ok (.getfield 198, 3) := by decide +kernel
theorem d_Mo_round_44 : decode b_Mo_round 44 = .ok (.if_icmp .ge 12, 3) := by decide +kernel
theorem d_Mo_round_47 : decode b_Mo_round 47 = .ok (.aload_n 0, 1) := by decide +kernel
theorem d_Mo_round_48 : decode b_Mo_round 48 = .ok (.getfield 53, 3) := by decide +kernel
theorem d_Mo_round_51 : decode b_Mo_round 51 = .ok (.iload_n 1, 1) := by decide +kernel
theorem d_Mo_round_52 : decode b_Mo_round 52 = .ok (.iaload, 1) := by decide +kernel
theorem d_Mo_round_53 : decode b_Mo_round 53 = .ok (.goto 4, 3) := by decide +kernel
theorem d_Mo_round_56 : decode b_Mo_round 56 = .ok (.iconst 0, 1) := by decide +kernel
theorem d_Mo_round_57 : decode b_Mo_round 57 = .ok (.istore_n 3, 1) := by decide +kernel
theorem d_Mo_round_58 : decode b_Mo_round 58 = .ok (.iload_n 3, 1) := by decide +kernel
theorem d_Mo_round_59 : decode b_Mo_round 59 = .ok (.iconst 5, 1) := by decide +kernel
theorem d_Mo_round_60 : decode b_Mo_round 60 = .ok (.if_icmp .gt 26, 3) := by decide +kernel
theorem d_Mo_round_63 : decode b_Mo_round 63 = .ok (.iload_n 3, 1) := by decide +kernel
theorem d_Mo_round_64 : decode b_Mo_round 64 = .ok (.iconst 5, 1) := by decide +kernel
theorem d_Mo_round_65 : decode b_Mo_round 65 = .ok (.if_icmp .ne 25, 3) := by decide +kernel
theorem d_Mo_round_68 : decode b_Mo_round 68 = .ok (.iload_n 2, 1) := by decide +kernel
theorem d_Mo_round_69 : decode b_Mo_round 69 = .ok (.ifCond .ne 17, 3) := by decide +kernel
theorem d_Mo_round_72 : decode b_Mo_round 72 = .ok (.aload_n 0, 1) := by decide +kernel
theorem d_Mo_round_73 : decode b_Mo_round 73 = .ok (.getfield 53, 3) := by decide +kernel
theorem d_Mo_round_76 : decode b_Mo_round 76 = .ok (.iload_n 1, 1) := by decide +kernel
theorem d_Mo_round_77 : decode b_Mo_round 77 = .ok (.iconst 1, 1) := by decide +kernel
theorem d_Mo_round_78 : decode b_Mo_round 78 = .ok (.isub, 1) := by decide +kernel
theorem d_Mo_round_79 : decode b_Mo_round 79 = .ok (.iaload, 1) := by decide +kernel
theorem d_Mo_round_80 : decode b_Mo_round 80 = .ok (.iconst 2, 1) := by decide +kernel
theorem d_Mo_round_81 : decode b_Mo_round 81 = .ok (.irem, 1) := by decide +kernel
theorem d_Mo_round_82 : decode b_Mo_round 82 = .ok (.iconst 1, 1) := by decide +kernel
theorem d_Mo_round_83 : decode b_Mo_round 83 = .ok (.if_icmp .ne 7, 3) := by decide +kernel
theorem d_Mo_round_86 : decode b_Mo_round 86 = .ok (.iconst 1, 1) := by decide +kernel
theorem d_Mo_round_87 : decode b_Mo_round 87 = .ok (.goto 4, 3) := by decide +kernel
theorem d_Mo_round_90 : decode b_Mo_round 90 = .ok (.iconst 0, 1) := by decide +kernel
theorem d_Mo_round_91 : decode b_Mo_round 91 = .ok (.istore 4, 2) := by decide +kernel
theorem d_Mo_round_93 : decode b_Mo_round 93 = .ok (.aload_n 0, 1) := by decide +kernel
theorem d_Mo_round_94 : decode b_Mo_round 94 = .ok (.iload_n 1, 1) := by decide +kernel
theorem d_Mo_round_95 : decode b_Mo_round 95 = .ok (.aload_n 0, 1) := by decide +kernel
theorem d_Mo_round_96 : decode b_Mo_round 96 = .ok (.getfield 198, 3) := by decide +kernel
theorem d_Mo_round_99 : decode b_Mo_round 99 = .ok (.if_icmp .ge 7, 3) := by decide +kernel
theorem d_Mo_round_102 : decode b_Mo_round 102 = .ok (.iload_n 1, 1) := by decide +kernel
theorem d_Mo_round_103 : decode b_Mo_round 103 = .ok (.goto 7, 3) := by decide +kernel
theorem d_Mo_round_106 : decode b_Mo_round 106 = .ok (.aload_n 0, 1) := by decide +kernel
theorem d_Mo_round_107 : decode b_Mo_round 107 = .ok (.getfield 198, 3) := by decide +kernel
theorem d_Mo_round_110 : decode b_Mo_round 110 = .ok (.putfield 198, 3) := by decide +kernel
theorem d_Mo_round_113 : decode b_Mo_round 113 = .ok (.iload_n 1, 1) := by decide +kernel
theorem d_Mo_round_114 : decode b_Mo_round 114 = .ok (.iconst 1, 1) := by decide +kernel
theorem d_Mo_round_115 : decode b_Mo_round 115 = .ok (.isub, 1) := by decide +kernel
theorem d_Mo_round_116 : decode b_Mo_round 116 = .ok (.istore 5, 2) := by decide +kernel
theorem d_Mo_round_118 : decode b_Mo_round 118 = .ok (.iload 4, 2) := by decide +kernel
theorem d_Mo_round_120 : decode b_Mo_round 120 = .ok (.ifCond .eq 58, 3) := by decide +kernel
theorem d_Mo_round_123 : decode b_Mo_round 123 = .ok (.iload 5, 2) := by decide +kernel
theorem d_Mo_round_125 : decode b_Mo_round 125 = .ok (.ifCond .lt 53, 3) := by decide +kernel
theorem d_Mo_round_128 : decode b_Mo_round 128 = .ok (.aload_n 0, 1) := by decide +kernel
theorem d_Mo_round_129 : decode b_Mo_round 129 = .ok (.getfield 53, 3) := by decide +kernel
theorem d_Mo_round_132 : decode b_Mo_round 132 = .ok (.iload 5, 2) := by decide +kernel
theorem d_Mo_round_134 : decode b_Mo_round 134 = .ok (.iaload, 1) := by decide +kernel
theorem d_Mo_round_135 : decode b_Mo_round 135 = .ok (.bipush 9, 2) := by decide +kernel
theorem d_Mo_round_137 : decode b_Mo_round 137 = .ok (.if_icmp .ne 7, 3) := by decide +kernel
theorem d_Mo_round_140 : decode b_Mo_round 140 = .ok (.iconst 1, 1) := by decide +kernel
theorem d_Mo_round_141 : decode b_Mo_round 141 = .ok (.goto 4, 3) := by decide +kernel
theorem d_Mo_round_144 : decode b_Mo_round 144 = .ok (.iconst 0, 1) := by decide +kernel
theorem d_Mo_round_145 : decode b_Mo_round 145 = .ok (.istore 4, 2) := by decide +kernel
theorem d_Mo_round_147 : decode b_Mo_round 147 = .ok (.aload_n 0, 1) := by decide +kernel
theorem d_Mo_round_148 : decode b_Mo_round 148 = .ok (.getfield 53, 3) := by decide +kernel
theorem d_Mo_round_151 : decode b_Mo_round 151 = .ok (.iload 5, 2) := by decide +kernel
theorem d_Mo_round_153 : decode b_Mo_round 153 = .ok (.iload 4, 2) := by decide +kernel
theorem d_Mo_round_155 : decode b_Mo_round 155 = .ok (.ifCond .eq 7, 3) := by decide +kernel
theorem d_Mo_round_158 : decode b_Mo_round 158 = .ok (.iconst 0, 1) := by decide +kernel
theorem d_Mo_round_159 : decode b_Mo_round 159 = .ok (.goto 12, 3) := by decide +kernel
theorem d_Mo_round_162 : decode b_Mo_round 162 = .ok (.aload_n 0, 1) := by decide +kernel
theorem d_Mo_round_163 : decode b_Mo_round 163 = .ok (.getfield 53, 3) := by decide +kernel
theorem d_Mo_round_166 : decode b_Mo_round 166 = .ok (.iload 5, 2) := by decide +kernel
theorem d_Mo_round_168 : decode b_Mo_round 168 = .ok (.iaload, 1) := by decide +kernel
theorem d_Mo_round_169 : decode b_Mo_round 169 = .ok (.iconst 1, 1) := by decide +kernel
theorem d_Mo_round_170 : decode b_Mo_round 170 = .ok (.iadd, 1) := by decide +kernel
theorem d_Mo_round_171 : decode b_Mo_round 171 = .ok (.iastore, 1) := by decide +kernel
theorem d_Mo_round_172 : decode b_Mo_round 172 = .ok (.iinc 5 (-1), 3) := by decide +kernel
theorem d_Mo_round_175 : decode b_Mo_round 175 = .ok (.goto (-57), 3) := by decide +kernel
theorem d_Mo_round_178 : decode b_Mo_round 178 = .ok (.return_, 1) := by decide +kernel
theorem d_Mo_exponential_0 : decode b_Mo_exponential 0 = .ok (.aload_n 0, 1) := by decide +kernel
theorem d_Mo_exponential_1 : decode b_Mo_exponential 1 = .ok (.iload_n 1, 1) := by decide +kernel
theorem d_Mo_exponential_2 : decode b_Mo_exponential 2 = .ok (.iload_n 2, 1) := by decide +kernel
theorem d_Mo_exponential_3 : decode b_Mo_exponential 3 = .ok (.invokevirtual 212, 3) := by decide +kernel
theorem d_Mo_exponential_6 : decode b_Mo_exponential 6 = .ok (.istore 5, 2) := by decide +kernel
theorem d_Mo_exponential_8 : decode b_Mo_exponential 8 = .ok (.aload_n 0, 1) := by decide +kernel
theorem d_Mo_exponential_9 : decode b_Mo_exponential 9 = .ok (.bipush 48, 2) := by decide +kernel
theorem d_Mo_exponential_11 : decode b_Mo_exponential 11 = .ok (.aload_n 0, 1) := by decide +kernel
theorem d_Mo_exponential_12 : decode b_Mo_exponential 12 = .ok (.getfield 53, 3) := by decide +kernel
theorem d_Mo_exponential_15 : decode b_Mo_exponential 15 = .ok (.aload_n 0, 1) := by decide +kernel
theorem d_Mo_exponential_16 : decode b_Mo_exponential 16 = .ok (.getfield 226, 3) := by decide +kernel
theorem d_Mo_exponential_19 : decode b_Mo_exponential 19 = .ok (.iaload, 1) := by decide +kernel
theorem d_Mo_exponential_20 : decode b_Mo_exponential 20 = .ok (.iadd, 1) := by decide +kernel
theorem d_Mo_exponential_21 : decode b_Mo_exponential 21 = .ok (.invokevirtual 169, 3) := by decide +kernel
theorem d_Mo_exponential_24 : decode b_Mo_exponential 24 = .ok (.iload_n 2, 1) := by decide +kernel
theorem d_Mo_exponential_25 : decode b_Mo_exponential 25 = .ok (.ifCond .gt 7, 3) := by decide +kernel
theorem d_Mo_exponential_28 : decode b_Mo_exponential 28 = .ok (.iload_n 3, 1) := by decide +kernel
theorem d_Mo_exponential_29 : decode b_Mo_exponential 29 = .ok (.ifCond .eq 9, 3) := by decide +kernel
theorem d_Mo_exponential_32 : decode b_Mo_exponential 32 = .ok (.aload_n 0, 1) := by decide +kernel
theorem d_Mo_exponential_33 : decode b_Mo_exponential 33 = .ok (.bipush 46, 2) := by decide +kernel
theorem d_Mo_exponential_35 : decode b_Mo_exponential 35 = .ok (.invokevirtual 169, 3) := by decide +kernel
theorem d_Mo_exponential_38 : decode b_Mo_exponential 38 = .ok (.iconst 1, 1) := by decide +kernel
theorem d_Mo_exponential_39 : decode b_Mo_exponential 39 = .ok (.istore 6, 2) := by decide +kernel
theorem d_Mo_exponential_41 : decode b_Mo_exponential 41 = .ok (.iload 6, 2) := by decide +kernel
theorem d_Mo_exponential_43 : decode b_Mo_exponential 43 = .ok (.iload_n 2, 1) := by decide +kernel
theorem d_Mo_exponential_44 : decode b_Mo_exponential 44 = .ok (.if_icmp .gt 46, 3) := by decide +kernel
theorem d_Mo_exponential_47 : decode b_Mo_exponential 47 = .ok (.aload_n 0, 1) := by decide +kernel
theorem d_Mo_exponential_48 : decode b_Mo_exponential 48 = .ok (.bipush 48, 2) := by decide +kernel
theorem d_Mo_exponential_50 : decode b_Mo_exponential 50 = .ok (.aload_n 0, 1) := by decide +kernel
theorem d_Mo_exponential_51 : decode b_Mo_exponential 51 = .ok (.getfield 226, 3) := by decide +kernel
theorem d_Mo_exponential_54 : decode b_Mo_exponential 54 = .ok (.iload 6, 2) := by decide +kernel
theorem d_Mo_exponential_56 : decode b_Mo_exponential 56 = .ok (.iadd, 1) := by decide +kernel
theorem d_Mo_exponential_57 : decode b_Mo_exponential 57 = .ok (.aload_n 0, 1) := by decide +kernel
theorem d_Mo_exponential_58 : decode b_Mo_exponential 58 = .ok (.getfield 198, 3) := by decide +kernel
theorem d_Mo_exponential_61 : decode b_Mo_exponential 61 = .ok (.if_icmp .ge 18, 3) := by decide +kernel
theorem d_Mo_exponential_64 : decode b_Mo_exponential 64 = .ok (.aload_n 0, 1) := by decide +kernel
theorem d_Mo_exponential_65 : decode b_Mo_exponential 65 = .ok (.getfield 53, 3) := by decide +kernel
theorem d_Mo_exponential_68 : decode b_Mo_exponential 68 = .ok (.aload_n 0, 1) := by decide +kernel
theorem d_Mo_exponential_69 : decode b_Mo_exponential 69 = .ok (.getfield 226, 3) := by decide +kernel
theorem d_Mo_exponential_72 : decode b_Mo_exponential 72 = .ok (.iload 6, 2) := by decide +kernel
theorem d_Mo_exponential_74 : decode b_Mo_exponential 74 = .ok (.iadd, 1) := by decide +kernel
theorem d_Mo_exponential_75 : decode b_Mo_exponential 75 = .ok (.iaload, 1) := by decide +kernel
theorem d_Mo_exponential_76 : decode b_Mo_exponential 76 = .ok (.goto 4, 3) := by decide +kernel
theorem d_Mo_exponential_79 : decode b_Mo_exponential 79 = .ok (.iconst 0, 1) := by decide +kernel
theorem d_Mo_exponential_80 : decode b_Mo_exponential 80 = .ok (.iadd, 1) := by decide +kernel
theorem d_Mo_exponential_81 : decode b_Mo_exponential 81 = .ok (.invokevirtual 169, 3) := by decide +kernel
theorem d_Mo_exponential_84 : decode b_Mo_exponential 84 = .ok (.iinc 6 1, 3) := by decide +kernel
theorem d_Mo_exponential_87 : decode b_Mo_exponential 87 = .ok (.goto (-46), 3) := by decide +kernel
theorem d_Mo_exponential_90 : decode b_Mo_exponential 90 = .ok (.iload 4, 2) := by decide +kernel
theorem d_Mo_exponential_92 : decode b_Mo_exponential 92 = .ok (.ifCond .eq 8, 3) := by decide +kernel
theorem d_Mo_exponential_95 : decode b_Mo_exponential 95 = .ok (.aload_n 0, 1) := by decide +kernel
theorem d_Mo_exponential_96 : decode b_Mo_exponential 96 = .ok (.iload_n 2, 1) := by decide +kernel
theorem d_Mo_exponential_97 : decode b_Mo_exponential 97 = .ok (.invokevirtual 216, 3) := by decide +kernel
theorem d_Mo_exponential_100 : decode b_Mo_exponential 100 = .ok (.aload_n 0, 1) := by decide +kernel
theorem d_Mo_exponential_101 : decode b_Mo_exponential 101 = .ok (.aload_n 0, 1) := by decide +kernel
theorem d_Mo_exponential_102 : decode b_Mo_exponential 102 = .ok (.getfield 111, 3) := by decide +kernel
theorem d_Mo_exponential_105 : decode b_Mo_exponential 105 = .ok (.bipush 69, 2) := by decide +kernel
theorem d_Mo_exponential_107 : decode b_Mo_exponential 107 = .ok (.if_icmp .eq 12, 3) := by decide +kernel
theorem d_Mo_exponential_110 : decode b_Mo_exponential 110 = .ok (.aload_n 0, 1) := by decide +kernel
theorem d_Mo_exponential_111 : decode b_Mo_exponential 111 = .ok (.getfield 111, 3) := by decide +kernel
theorem d_Mo_exponential_114 : decode b_Mo_exponential 114 = .ok (.bipush 71, 2) := by decide +kernel
theorem d_Mo_exponential_116 : decode b_Mo_exponential 116 = .ok (.if_icmp .ne 8, 3) := by decide +kernel
theorem d_Mo_exponential_119 : decode b_Mo_exponential 119 = .ok (.bipush 69, 2) := by decide +kernel
theorem d_Mo_exponential_121 : decode b_Mo_exponential 121 = .ok (.goto 5, 3) := by decide +kernel
theorem d_Mo_exponential_124 : decode b_Mo_exponential 124 = .ok (.bipush 101, 2) := by decide +kernel
theorem d_Mo_exponential_126 : decode b_Mo_exponential 126 = .ok (.invokevirtual 169, 3) := by decide +kernel
theorem d_Mo_exponential_129 : decode b_Mo_exponential 129 = .ok (.aload_n 0, 1) := by decide +kernel
theorem d_Mo_exponential_130 : decode b_Mo_exponential 130 = .ok (.iload 5, 2) := by decide +kernel
theorem d_Mo_exponential_132 : decode b_Mo_exponential 132 = .ok (.ifCond .ge 8, 3) := by decide +kernel
theorem d_Mo_exponential_135 : decode b_Mo_exponential 135 = .ok (.bipush 45, 2) := by decide +kernel
theorem d_Mo_exponential_137 : decode b_Mo_exponential 137 = .ok (.goto 5, 3) := by decide +kernel
theorem d_Mo_exponential_140 : decode b_Mo_exponential 140 = .ok (.bipush 43, 2) := by decide +kernel
theorem d_Mo_exponential_142 : decode b_Mo_exponential 142 = .ok (.invokevirtual 169, 3) := by decide +kernel
theorem d_Mo_exponential_145 : decode b_Mo_exponential 145 = .ok (.iload 5, 2) := by decide +kernel
theorem d_Mo_exponential_147 : decode b_Mo_exponential 147 = .ok (.ifCond .ge 9, 3) := by decide +kernel
theorem d_Mo_exponential_150 : decode b_Mo_exponential 150 = .ok (.iload 5, 2) := by decide +kernel
theorem d_Mo_exponential_152 : decode b_Mo_exponential 152 = .ok (.ineg, 1) := by decide +kernel
theorem d_Mo_exponential_153 : decode b_Mo_exponential 153 = .ok (.goto 5, 3) := by decide +kernel
theorem d_Mo_exponential_156 : decode b_Mo_exponential 156 = .ok (.iload 5, 2) := by decide +kernel
theorem d_Mo_exponential_158 : decode b_Mo_exponential 158 = .ok (.istore 6, 2) := by decide +kernel
theorem d_Mo_exponential_160 : decode b_Mo_exponential 160 = .ok (.aload_n 0, 1) := by decide +kernel
theorem d_Mo_exponential_161 : decode b_Mo_exponential 161 = .ok (.bipush 48, 2) := by decide +kernel
theorem d_Mo_exponential_163 : decode b_Mo_exponential 163 = .ok (.iload 6, 2) := by decide +kernel
theorem d_Mo_exponential_165 : decode b_Mo_exponential 165 = .ok (.bipush 10, 2) := by decide +kernel
theorem d_Mo_exponential_167 : decode b_Mo_exponential 167 = .ok (.idiv, 1) := by decide +kernel
theorem d_Mo_exponential_168 : decode b_Mo_exponential 168 = .ok (.iadd, 1) := by decide +kernel
theorem d_Mo_exponential_169 : decode b_Mo_exponential 169 = .ok (.invokevirtual 169, 3) := by decide +kernel
theorem d_Mo_exponential_172 : decode b_Mo_exponential 172 = .ok (.aload_n 0, 1) := by decide +kernel
theorem d_Mo_exponential_173 : decode b_Mo_exponential 173 = .ok (.bipush 48, 2) := by decide +kernel
theorem d_Mo_exponential_175 : decode b_Mo_exponential 175 = .ok (.iload 6, 2) := by decide +kernel
theorem d_Mo_exponential_177 : decode b_Mo_exponential 177 = .ok (.bipush 10, 2) := by decide +kernel
theorem d_Mo_exponential_179 : decode b_Mo_exponential 179 = .ok (.irem, 1) := by decide +kernel
theorem d_Mo_exponential_180 : decode b_Mo_exponential 180 = .ok (.iadd, 1) := by decide +kernel
theorem d_Mo_exponential_181 : decode b_Mo_exponential 181 = .ok (.invokevirtual 169, 3) := by decide +kernel
theorem d_Mo_exponential_184 : decode b_Mo_exponential 184 = .ok (.return_, 1) := by decide +kernel
theorem d_Mo_exponentOf_0 : decode b_Mo_exponentOf 0 = .ok (.aload_n 0, 1) := by decide +kernel
theorem d_Mo_exponentOf_1 : decode b_Mo_exponentOf 1 = .ok (.iload_n 1, 1) := by decide +kernel
theorem d_Mo_exponentOf_2 : decode b_Mo_exponentOf 2 = .ok (.iconst 0, 1) := by decide +kernel
theorem d_Mo_exponentOf_3 : decode b_Mo_exponentOf 3 = .ok (.invokevirtual 219, 3) := by decide +kernel
theorem d_Mo_exponentOf_6 : decode b_Mo_exponentOf 6 = .ok (.iconst 0, 1) := by decide +kernel
theorem d_Mo_exponentOf_7 : decode b_Mo_exponentOf 7 = .ok (.istore_n 3, 1) := by decide +kernel
theorem d_Mo_exponentOf_8 : decode b_Mo_exponentOf 8 = .ok (.iload_n 3, 1) := by decide +kernel
theorem d_Mo_exponentOf_9 : decode b_Mo_exponentOf 9 = .ok (.aload_n 0, 1) := by decide +kernel
theorem d_Mo_exponentOf_10 : decode b_Mo_exponentOf 10 = .ok (.getfield 198, 3) := by decide +kernel
theorem d_Mo_exponentOf_13 : decode b_Mo_exponentOf 13 = .ok (.if_icmp .ge 18, 3) := by decide +kernel
theorem d_Mo_exponentOf_16 : decode b_Mo_exponentOf 16 = .ok (.aload_n 0, 1) := by decide +kernel
theorem d_Mo_exponentOf_17 : decode b_Mo_exponentOf 17 = .ok (.getfield 53, 3) := by decide +kernel
theorem d_Mo_exponentOf_20 : decode b_Mo_exponentOf 20 = .ok (.iload_n 3, 1) := by decide +kernel
theorem d_Mo_exponentOf_21 : decode b_Mo_exponentOf 21 = .ok (.iaload, 1) := by decide +kernel
theorem d_Mo_exponentOf_22 : decode b_Mo_exponentOf 22 = .ok (.ifCond .ne 9, 3) := by decide +kernel
theorem d_Mo_exponentOf_25 : decode b_Mo_exponentOf 25 = .ok (.iinc 3 1, 3) := by decide +kernel
theorem d_Mo_exponentOf_28 : decode b_Mo_exponentOf 28 = .ok (.goto (-20), 3) := by decide +kernel
theorem d_Mo_exponentOf_31 : decode b_Mo_exponentOf 31 = .ok (.iload_n 3, 1) := by decide +kernel
theorem d_Mo_exponentOf_32 : decode b_Mo_exponentOf 32 = .ok (.aload_n 0, 1) := by decide +kernel
theorem d_Mo_exponentOf_33 : decode b_Mo_exponentOf 33 = .ok (.getfield 198, 3) := by decide +kernel
theorem d_Mo_exponentOf_36 : decode b_Mo_exponentOf 36 = .ok (.if_icmp .ne 53, 3) := by decide +kernel
theorem d_Mo_exponentOf_39 : decode b_Mo_exponentOf 39 = .ok (.aload_n 0, 1) := by decide +kernel
theorem d_Mo_exponentOf_40 : decode b_Mo_exponentOf 40 = .ok (.aload_n 0, 1) := by decide +kernel
theorem d_Mo_exponentOf_41 : decode b_Mo_exponentOf 41 = .ok (.getfield 201, 3) := by decide +kernel
theorem d_Mo_exponentOf_44 : decode b_Mo_exponentOf 44 = .ok (.iconst 1, 1) := by decide +kernel
theorem d_Mo_exponentOf_45 : decode b_Mo_exponentOf 45 = .ok (.isub, 1) := by decide +kernel
theorem d_Mo_exponentOf_46 : decode b_Mo_exponentOf 46 = .ok (.putfield 226, 3) := by decide +kernel
theorem d_Mo_exponentOf_49 : decode b_Mo_exponentOf 49 = .ok (.aload_n 0, 1) := by decide +kernel
theorem d_Mo_exponentOf_50 : decode b_Mo_exponentOf 50 = .ok (.getfield 198, 3) := by decide +kernel
theorem d_Mo_exponentOf_53 : decode b_Mo_exponentOf 53 = .ok (.aload_n 0, 1) := by decide +kernel
theorem d_Mo_exponentOf_54 : decode b_Mo_exponentOf 54 = .ok (.getfield 226, 3) := by decide +kernel
theorem d_Mo_exponentOf_57 : decode b_Mo_exponentOf 57 = .ok (.iload_n 2, 1) := by decide +kernel
theorem d_Mo_exponentOf_58 : decode b_Mo_exponentOf 58 = .ok (.iadd, 1) := by decide +kernel
theorem d_Mo_exponentOf_59 : decode b_Mo_exponentOf 59 = .ok (.iconst 1, 1) := by decide +kernel
theorem d_Mo_exponentOf_60 : decode b_Mo_exponentOf 60 = .ok (.iadd, 1) := by decide +kernel
theorem d_Mo_exponentOf_61 : decode b_Mo_exponentOf 61 = .ok (.if_icmp .ge 26, 3) := by decide +kernel
theorem d_Mo_exponentOf_64 : decode b_Mo_exponentOf 64 = .ok (.aload_n 0, 1) := by decide +kernel
theorem d_Mo_exponentOf_65 : decode b_Mo_exponentOf 65 = .ok (.getfield 53, 3) := by decide +kernel
theorem d_Mo_exponentOf_68 : decode b_Mo_exponentOf 68 = .ok (.aload_n 0, 1) := by decide +kernel
theorem d_Mo_exponentOf_69 : decode b_Mo_exponentOf 69 = .ok (.getfield 198, 3) := by decide +kernel
theorem d_Mo_exponentOf_72 : decode b_Mo_exponentOf 72 = .ok (.iconst 0, 1) := by decide +kernel
theorem d_Mo_exponentOf_73 : decode b_Mo_exponentOf 73 = .ok (.iastore, 1) := by decide +kernel
theorem d_Mo_exponentOf_74 : decode b_Mo_exponentOf 74 = .ok (.aload_n 0, 1) := by decide +kernel
theorem d_Mo_exponentOf_75 : decode b_Mo_exponentOf 75 = .ok (.dup, 1) := by decide +kernel
theorem d_Mo_exponentOf_76 : decode b_Mo_exponentOf 76 = .ok (.getfield 198, 3) := by decide +kernel
theorem d_Mo_exponentOf_79 : decode b_Mo_exponentOf 79 = .ok (.iconst 1, 1) := by decide +kernel
theorem d_Mo_exponentOf_80 : decode b_Mo_exponentOf 80 = .ok (.iadd, 1) := by decide +kernel
theorem d_Mo_exponentOf_81 : decode b_Mo_exponentOf 81 = .ok (.putfield 198, 3) := by decide +kernel
theorem d_Mo_exponentOf_84 : decode b_Mo_exponentOf 84 = .ok (.goto (-35), 3) := by decide +kernel
theorem d_Mo_exponentOf_87 : decode b_Mo_exponentOf 87 = .ok (.iconst 0, 1) := by decide +kernel
theorem d_Mo_exponentOf_88 : decode b_Mo_exponentOf 88 = .ok (.ireturn, 1) := by decide +kernel
theorem d_Mo_exponentOf_89 : decode b_Mo_exponentOf 89 = .ok (.aload_n 0, 1) := by decide +kernel
theorem d_Mo_exponentOf_90 : decode b_Mo_exponentOf 90 = .ok (.getfield 198, 3) := by decide +kernel
theorem d_Mo_exponentOf_93 : decode b_Mo_exponentOf 93 = .ok (.iload_n 3, 1) := by decide +kernel
theorem d_Mo_exponentOf_94 : decode b_Mo_exponentOf 94 = .ok (.iload_n 2, 1) := by decide +kernel
theorem d_Mo_exponentOf_95 : decode b_Mo_exponentOf 95 = .ok (.iadd, 1) := by decide +kernel
theorem d_Mo_exponentOf_96 : decode b_Mo_exponentOf 96 = .ok (.iconst 1, 1) := by decide +kernel
theorem d_Mo_exponentOf_97 : decode b_Mo_exponentOf 97 = .ok (.iadd, 1) := by decide +kernel
theorem d_Mo_exponentOf_98 : decode b_Mo_exponentOf 98 = .ok (.if_icmp .ge 26, 3) := by decide +kernel
theorem d_Mo_exponentOf_101 : decode b_Mo_exponentOf 101 = .ok (.aload_n 0, 1) := by decide +kernel
theorem d_Mo_exponentOf_102 : decode b_Mo_exponentOf 102 = .ok (.getfield 53, 3) := by decide +kernel
theorem d_Mo_exponentOf_105 : decode b_Mo_exponentOf 105 = .ok (.aload_n 0, 1) := by decide +kernel
theorem d_Mo_exponentOf_106 : decode b_Mo_exponentOf 106 = .ok (.getfield 198, 3) := by decide +kernel
theorem d_Mo_exponentOf_109 : decode b_Mo_exponentOf 109 = .ok (.iconst 0, 1) := by decide +kernel
theorem d_Mo_exponentOf_110 : decode b_Mo_exponentOf 110 = .ok (.iastore, 1) := by decide +kernel
theorem d_Mo_exponentOf_111 : decode b_Mo_exponentOf 111 = .ok (.aload_n 0, 1) := by decide +kernel
theorem d_Mo_exponentOf_112 : decode b_Mo_exponentOf 112 = .ok (.dup, 1) := by decide +kernel
theorem d_Mo_exponentOf_113 : decode b_Mo_exponentOf 113 = .ok (.getfield 198, 3) := by decide +kernel
theorem d_Mo_exponentOf_116 : decode b_Mo_exponentOf 116 = .ok (.iconst 1, 1) := by decide +kernel
theorem d_Mo_exponentOf_117 : decode b_Mo_exponentOf 117 = .ok (.iadd, 1) := by decide +kernel
theorem d_Mo_exponentOf_118 : decode b_Mo_exponentOf 118 = .ok (.putfield 198, 3) := by decide +kernel
theorem d_Mo_exponentOf_121 : decode b_Mo_exponentOf 121 = .ok (.goto (-32), 3) := by decide +kernel
theorem d_Mo_exponentOf_124 : decode b_Mo_exponentOf 124 = .ok (.aload_n 0, 1) := by decide +kernel
theorem d_Mo_exponentOf_125 : decode b_Mo_exponentOf 125 = .ok (.iload_n 3, 1) := by decide +kernel
theorem d_Mo_exponentOf_126 : decode b_Mo_exponentOf 126 = .ok (.iload_n 2, 1) := by decide +kernel
theorem d_Mo_exponentOf_127 : decode b_Mo_exponentOf 127 = .ok (.iadd, 1) := by decide +kernel
theorem d_Mo_exponentOf_128 : decode b_Mo_exponentOf 128 = .ok (.iconst 1, 1) := by decide +kernel
theorem d_Mo_exponentOf_129 : decode b_Mo_exponentOf 129 = .ok (.iadd, 1) := by decide +kernel
theorem d_Mo_exponentOf_130 : decode b_Mo_exponentOf 130 = .ok (.invokevirtual 223, 3) := by decide +kernel
theorem d_Mo_exponentOf_133 : decode b_Mo_exponentOf 133 = .ok (.aload_n 0, 1) := by decide +kernel
theorem d_Mo_exponentOf_134 : decode b_Mo_exponentOf 134 = .ok (.aload_n 0, 1) := by decide +kernel
theorem d_Mo_exponentOf_135 : decode b_Mo_exponentOf 135 = .ok (.getfield 53, 3) := by decide +kernel
theorem d_Mo_exponentOf_138 : decode b_Mo_exponentOf 138 = .ok (.iload_n 3, 1) := by decide +kernel
theorem d_Mo_exponentOf_139 : decode b_Mo_exponentOf 139 = .ok (.iaload, 1) := by decide +kernel
theorem d_Mo_exponentOf_140 : decode b_Mo_exponentOf 140 = .ok (.ifCond .ne 9, 3) := by decide +kernel
theorem d_Mo_exponentOf_143 : decode b_Mo_exponentOf 143 = .ok (.iload_n 3, 1) := by decide +kernel
theorem d_Mo_exponentOf_144 : decode b_Mo_exponentOf 144 = .ok (.iconst 1, 1) := by decide +kernel
theorem d_Mo_exponentOf_145 : decode b_Mo_exponentOf 145 = .ok (.isub, 1) := by decide +kernel
theorem d_Mo_exponentOf_146 : decode b_Mo_exponentOf 146 = .ok (.goto 4, 3) := by decide +kernel
theorem d_Mo_exponentOf_149 : decode b_Mo_exponentOf 149 = .ok (.iload_n 3, 1) := by decide +kernel
theorem d_Mo_exponentOf_150 : decode b_Mo_exponentOf 150 = .ok (.putfield 226, 3) := by decide +kernel
theorem d_Mo_exponentOf_153 : decode b_Mo_exponentOf 153 = .ok (.aload_n 0, 1) := by decide +kernel
theorem d_Mo_exponentOf_154 : decode b_Mo_exponentOf 154 = .ok (.getfield 201, 3) := by decide +kernel
theorem d_Mo_exponentOf_157 : decode b_Mo_exponentOf 157 = .ok (.iconst 1, 1) := by decide +kernel
theorem d_Mo_exponentOf_158 : decode b_Mo_exponentOf 158 = .ok (.isub, 1) := by decide +kernel
theorem d_Mo_exponentOf_159 : decode b_Mo_exponentOf 159 = .ok (.aload_n 0, 1) := by decide +kernel
theorem d_Mo_exponentOf_160 : decode b_Mo_exponentOf 160 = .ok (.getfield 226, 3) := by decide +kernel
theorem d_Mo_exponentOf_163 : decode b_Mo_exponentOf 163 = .ok (.isub, 1) := by decide +kernel
theorem d_Mo_exponentOf_164 : decode b_Mo_exponentOf 164 = .ok (.ireturn, 1) := by decide +kernel
theorem d_Mo_cut_0 : decode b_Mo_cut 0 = .ok (.iload_n 1, 1) := by decide +kernel
theorem d_Mo_cut_1 : decode b_Mo_cut 1 = .ok (.ifCond .ne 4, 3) := by decide +kernel
theorem d_Mo_cut_4 : decode b_Mo_cut 4 = .ok (.return_, 1) := by decide +kernel
theorem d_Mo_cut_5 : decode b_Mo_cut 5 = .ok (.aload_n 0, 1) := by decide +kernel
theorem d_Mo_cut_6 : decode b_Mo_cut 6 = .ok (.getfield 44, 3) := by decide +kernel
theorem d_Mo_cut_9 : decode b_Mo_cut 9 = .ok (.aload_n 0, 1) := by decide +kernel
theorem d_Mo_cut_10 : decode b_Mo_cut 10 = .ok (.getfield 162, 3) := by decide +kernel
theorem d_Mo_cut_13 : decode b_Mo_cut 13 = .ok (.iconst 1, 1) := by decide +kernel
theorem d_Mo_cut_14 : decode b_Mo_cut 14 = .ok (.isub, 1) := by decide +kernel
theorem d_Mo_cut_15 : decode b_Mo_cut 15 = .ok (.iaload, 1) := by decide +kernel
theorem d_Mo_cut_16 : decode b_Mo_cut 16 = .ok (.bipush 48, 2) := by decide +kernel
theorem d_Mo_cut_18 : decode b_Mo_cut 18 = .ok (.if_icmp .ne 16, 3) := by decide +kernel
theorem d_Mo_cut_21 : decode b_Mo_cut 21 = .ok (.aload_n 0, 1) := by decide +kernel
theorem d_Mo_cut_22 : decode b_Mo_cut 22 = .ok (.dup, 1) := by decide +kernel
theorem d_Mo_cut_23 : decode b_Mo_cut 23 = .ok (.getfield 162, 3) := by decide +kernel
theorem d_Mo_cut_26 : decode b_Mo_cut 26 = .ok (.iconst 1, 1) := by decide +kernel
theorem d_Mo_cut_27 : decode b_Mo_cut 27 = .ok (.isub, 1) := by decide +kernel
theorem d_Mo_cut_28 : decode b_Mo_cut 28 = .ok (.putfield 162, 3) := by decide +kernel
theorem d_Mo_cut_31 : decode b_Mo_cut 31 = .ok (.goto (-26), 3) := by decide +kernel
theorem d_Mo_cut_34 : decode b_Mo_cut 34 = .ok (.aload_n 0, 1) := by decide +kernel
theorem d_Mo_cut_35 : decode b_Mo_cut 35 = .ok (.getfield 44, 3) := by decide +kernel
theorem d_Mo_cut_38 : decode b_Mo_cut 38 = .ok (.aload_n 0, 1) := by decide +kernel
theorem d_Mo_cut_39 : decode b_Mo_cut 39 = .ok (.getfield 162, 3) := by decide +kernel
theorem d_Mo_cut_42 : decode b_Mo_cut 42 = .ok (.iconst 1, 1) := by decide +kernel
theorem d_Mo_cut_43 : decode b_Mo_cut 43 = .ok (.isub, 1) := by decide +kernel
theorem d_Mo_cut_44 : decode b_Mo_cut 44 = .ok (.iaload, 1) := by decide +kernel
theorem d_Mo_cut_45 : decode b_Mo_cut 45 = .ok (.bipush 46, 2) := by decide +kernel
theorem d_Mo_cut_47 : decode b_Mo_cut 47 = .ok (.if_icmp .ne 13, 3) := by decide +kernel
theorem d_Mo_cut_50 : decode b_Mo_cut 50 = .ok (.aload_n 0, 1) := by decide +kernel
theorem d_Mo_cut_51 : decode b_Mo_cut 51 = .ok (.dup, 1) := by decide +kernel
theorem d_Mo_cut_52 : decode b_Mo_cut 52 = .ok (.getfield 162, 3) := by decide +kernel
theorem d_Mo_cut_55 : decode b_Mo_cut 55 = .ok (.iconst 1, 1) := by decide +kernel
theorem d_Mo_cut_56 : decode b_Mo_cut 56 = .ok (.isub, 1) := by decide +kernel
theorem d_Mo_cut_57 : decode b_Mo_cut 57 = .ok (.putfield 162, 3) := by decide +kernel
theorem d_Mo_cut_60 : decode b_Mo_cut 60 = .ok (.return_, 1) := by decide +kernel
theorem d_Mo_putWhole_0 : decode b_Mo_putWhole 0 = .ok (.aload_n 0, 1) := by decide +kernel
theorem d_Mo_putWhole_1 : decode b_Mo_putWhole 1 = .ok (.iload_n 1, 1) := by decide +kernel
theorem d_Mo_putWhole_2 : decode b_Mo_putWhole 2 = .ok (.invokevirtual 141, 3) := by decide +kernel
theorem d_Mo_putWhole_5 : decode b_Mo_putWhole 5 = .ok (.lstore_n 2, 1) := by decide +kernel
theorem d_Mo_putWhole_6 : decode b_Mo_putWhole 6 = .ok (.aload_n 0, 1) := by decide +kernel
theorem d_Mo_putWhole_7 : decode b_Mo_putWhole 7 = .ok (.lload_n 2, 1) := by decide +kernel
theorem d_Mo_putWhole_8 : decode b_Mo_putWhole 8 = .ok (.lconst 0, 1) := by decide +kernel
theorem d_Mo_putWhole_9 : decode b_Mo_putWhole 9 = .ok (.lcmp, 1) := by decide +kernel
theorem d_Mo_putWhole_10 : decode b_Mo_putWhole 10 = .ok (.ifCond .ge 7, 3) := by decide +kernel
theorem d_Mo_putWhole_13 : decode b_Mo_putWhole 13 = .ok (.iconst 1, 1) := by decide +kernel
theorem d_Mo_putWhole_14 : decode b_Mo_putWhole 14 = .ok (.goto 4, 3) := by decide +kernel
theorem d_Mo_putWhole_17 : decode b_Mo_putWhole 17 = .ok (.iconst 0, 1) := by decide +kernel
theorem d_Mo_putWhole_18 : decode b_Mo_putWhole 18 = .ok (.invokevirtual 194, 3) := by decide +kernel
theorem d_Mo_putWhole_21 : decode b_Mo_putWhole 21 = .ok (.aload_n 0, 1) := by decide +kernel
theorem d_Mo_putWhole_22 : decode b_Mo_putWhole 22 = .ok (.getfield 111, 3) := by decide +kernel
theorem d_Mo_putWhole_25 : decode b_Mo_putWhole 25 = .ok (.bipush 100, 2) := by decide +kernel
theorem d_Mo_putWhole_27 : decode b_Mo_putWhole 27 = .ok (.if_icmp .ne 8, 3) := by decide +kernel
theorem d_Mo_putWhole_30 : decode b_Mo_putWhole 30 = .ok (.bipush 10, 2) := by decide +kernel
theorem d_Mo_putWhole_32 : decode b_Mo_putWhole 32 = .ok (.goto 32, 3) := by decide +kernel
theorem d_Mo_putWhole_35 : decode b_Mo_putWhole 35 = .ok (.aload_n 0, 1) := by decide +kernel
theorem d_Mo_putWhole_36 : decode b_Mo_putWhole 36 = .ok (.getfield 111, 3) := by decide +kernel
theorem d_Mo_putWhole_39 : decode b_Mo_putWhole 39 = .ok (.bipush 111, 2) := by decide +kernel
theorem d_Mo_putWhole_41 : decode b_Mo_putWhole 41 = .ok (.if_icmp .ne 8, 3) := by decide +kernel
theorem d_Mo_putWhole_44 : decode b_Mo_putWhole 44 = .ok (.bipush 8, 2) := by decide +kernel
theorem d_Mo_putWhole_46 : decode b_Mo_putWhole 46 = .ok (.goto 18, 3) := by decide +kernel
theorem d_Mo_putWhole_49 : decode b_Mo_putWhole 49 = .ok (.aload_n 0, 1) := by decide +kernel
theorem d_Mo_putWhole_50 : decode b_Mo_putWhole 50 = .ok (.getfield 111, 3) := by decide +kernel
theorem d_Mo_putWhole_53 : decode b_Mo_putWhole 53 = .ok (.bipush 98, 2) := by decide +kernel
theorem d_Mo_putWhole_55 : decode b_Mo_putWhole 55 = .ok (.if_icmp .ne 7, 3) := by decide +kernel
theorem d_Mo_putWhole_58 : decode b_Mo_putWhole 58 = .ok (.iconst 2, 1) := by decide +kernel
theorem d_Mo_putWhole_59 : decode b_Mo_putWhole 59 = .ok (.goto 5, 3) := by decide +kernel
theorem d_Mo_putWhole_62 : decode b_Mo_putWhole 62 = .ok (.bipush 16, 2) := by decide +kernel
theorem d_Mo_putWhole_64 : decode b_Mo_putWhole 64 = .ok (.istore 4, 2) := by decide +kernel
theorem d_Mo_putWhole_66 : decode b_Mo_putWhole 66 = .ok (.aload_n 0, 1) := by decide +kernel
theorem d_Mo_putWhole_67 : decode b_Mo_putWhole 67 = .ok (.getfield 93, 3) := by decide +kernel
theorem d_Mo_putWhole_70 : decode b_Mo_putWhole 70 = .ok (.ifCond .eq 46, 3) := by decide +kernel
theorem d_Mo_putWhole_73 : decode b_Mo_putWhole 73 = .ok (.iload 4, 2) := by decide +kernel
theorem d_Mo_putWhole_75 : decode b_Mo_putWhole 75 = .ok (.bipush 10, 2) := by decide +kernel
theorem d_Mo_putWhole_77 : decode b_Mo_putWhole 77 = .ok (.if_icmp .eq 39, 3) := by decide +kernel
theorem d_Mo_putWhole_80 : decode b_Mo_putWhole 80 = .ok (.aload_n 0, 1) := by decide +kernel
theorem d_Mo_putWhole_81 : decode b_Mo_putWhole 81 = .ok (.getfield 41, 3) := by decide +kernel
theorem d_Mo_putWhole_84 : decode b_Mo_putWhole 84 = .ok (.aload_n 0, 1) := by decide +kernel
theorem d_Mo_putWhole_85 : decode b_Mo_putWhole 85 = .ok (.getfield 159, 3) := by decide +kernel
theorem d_Mo_putWhole_88 : decode b_Mo_putWhole 88 = .ok (.bipush 48, 2) := by decide +kernel
theorem d_Mo_putWhole_90 : decode b_Mo_putWhole 90 = .ok (.iastore, 1) := by decide +kernel
theorem d_Mo_putWhole_91 : decode b_Mo_putWhole 91 = .ok (.aload_n 0, 1) := by decide +kernel
theorem d_Mo_putWhole_92 : decode b_Mo_putWhole 92 = .ok (.getfield 41, 3) := by decide +kernel
theorem d_Mo_putWhole_95 : decode b_Mo_putWhole 95 = .ok (.aload_n 0, 1) := by decide +kernel
theorem d_Mo_putWhole_96 : decode b_Mo_putWhole 96 = .ok (.getfield 159, 3) := by decide +kernel
theorem d_Mo_putWhole_99 : decode b_Mo_putWhole 99 = .ok (.iconst 1, 1) := by decide +kernel
theorem d_Mo_putWhole_100 : decode b_Mo_putWhole 100 = .ok (.iadd, 1) := by decide +kernel
theorem d_Mo_putWhole_101 : decode b_Mo_putWhole 101 = .ok (.aload_n 0, 1) := by decide +kernel
theorem d_Mo_putWhole_102 : decode b_Mo_putWhole 102 = .ok (.getfield 111, 3) := by decide +kernel
theorem d_Mo_putWhole_105 : decode b_Mo_putWhole 105 = .ok (.iastore, 1) := by decide +kernel
theorem d_Mo_putWhole_106 : decode b_Mo_putWhole 106 = .ok (.aload_n 0, 1) := by decide +kernel
theorem d_Mo_putWhole_107 : decode b_Mo_putWhole 107 = .ok (.dup, 1) := by decide +kernel
theorem d_Mo_putWhole_108 : decode b_Mo_putWhole 108 = .ok (.getfield 159, 3) := by decide +kernel
theorem d_Mo_putWhole_111 : decode b_Mo_putWhole 111 = .ok (.iconst 2, 1) := by decide +kernel
theorem d_Mo_putWhole_112 : decode b_Mo_putWhole 112 = .ok (.iadd, 1) := by decide +kernel
theorem d_Mo_putWhole_113 : decode b_Mo_putWhole 113 = .ok (.putfield 159, 3) := by decide +kernel
theorem d_Mo_putWhole_116 : decode b_Mo_putWhole 116 = .ok (.lload_n 2, 1) := by decide +kernel
theorem d_Mo_putWhole_117 : decode b_Mo_putWhole 117 = .ok (.lconst 0, 1) := by decide +kernel
theorem d_Mo_putWhole_118 : decode b_Mo_putWhole 118 = .ok (.lcmp, 1) := by decide +kernel
theorem d_Mo_putWhole_119 : decode b_Mo_putWhole 119 = .ok (.ifCond .ge 8, 3) := by decide +kernel
theorem d_Mo_putWhole_122 : decode b_Mo_putWhole 122 = .ok (.lload_n 2, 1) := by decide +kernel
theorem d_Mo_putWhole_123 : decode b_Mo_putWhole 123 = .ok (.lneg, 1) := by decide +kernel
theorem d_Mo_putWhole_124 : decode b_Mo_putWhole 124 = .ok (.goto 4, 3) := by decide +kernel
theorem d_Mo_putWhole_127 : decode b_Mo_putWhole 127 = .ok (.lload_n 2, 1) := by decide +kernel
theorem d_Mo_putWhole_128 : decode b_Mo_putWhole 128 = .ok (.lstore 5, 2) := by decide +kernel
theorem d_Mo_putWhole_130 : decode b_Mo_putWhole 130 = .ok (.iconst 0, 1) := by decide +kernel
theorem d_Mo_putWhole_131 : decode b_Mo_putWhole 131 = .ok (.istore 7, 2) := by decide +kernel
theorem d_Mo_putWhole_133 : decode b_Mo_putWhole 133 = .ok (.lload 5, 2) := by decide +kernel
theorem d_Mo_putWhole_135 : decode b_Mo_putWhole 135 = .ok (.iload 4, 2) := by decide +kernel
theorem d_Mo_putWhole_137 : decode b_Mo_putWhole 137 = .ok (.i2l, 1) := by decide +kernel
theorem d_Mo_putWhole_138 : decode b_Mo_putWhole 138 = .ok (.lrem, 1) := by decide +kernel
theorem d_Mo_putWhole_139 : decode b_Mo_putWhole 139 = .ok (.l2i, 1) := by decide +kernel
theorem d_Mo_putWhole_140 : decode b_Mo_putWhole 140 = .ok (.istore 8, 2) := by decide +kernel
theorem d_Mo_putWhole_142 : decode b_Mo_putWhole 142 = .ok (.aload_n 0, 1) := by decide +kernel
theorem d_Mo_putWhole_143 : decode b_Mo_putWhole 143 = .ok (.getfield 50, 3) := by decide +kernel
theorem d_Mo_putWhole_146 : decode b_Mo_putWhole 146 = .ok (.iload 7, 2) := by decide +kernel
theorem d_Mo_putWhole_148 : decode b_Mo_putWhole 148 = .ok (.iload 8, 2) := by decide +kernel
theorem d_Mo_putWhole_150 : decode b_Mo_putWhole 150 = .ok (.bipush 10, 2) := by decide +kernel
theorem d_Mo_putWhole_152 : decode b_Mo_putWhole 152 = .ok (.if_icmp .ge 11, 3) := by decide +kernel
theorem d_Mo_putWhole_155 : decode b_Mo_putWhole 155 = .ok (.bipush 48, 2) := by decide +kernel
theorem d_Mo_putWhole_157 : decode b_Mo_putWhole 157 = .ok (.iload 8, 2) := by decide +kernel
theorem d_Mo_putWhole_159 : decode b_Mo_putWhole 159 = .ok (.iadd, 1) := by decide +kernel
theorem d_Mo_putWhole_160 : decode b_Mo_putWhole 160 = .ok (.goto 25, 3) := by decide +kernel
theorem d_Mo_putWhole_163 : decode b_Mo_putWhole 163 = .ok (.aload_n 0, 1) := by decide +kernel
theorem d_Mo_putWhole_164 : decode b_Mo_putWhole 164 = .ok (.getfield 111, 3) := by decide +kernel
theorem d_Mo_putWhole_167 : decode b_Mo_putWhole 167 = .ok (.bipush 88, 2) := by decide +kernel
theorem d_Mo_putWhole_169 : decode b_Mo_putWhole 169 = .ok (.if_icmp .ne 8, 3) := by decide +kernel
theorem d_Mo_putWhole_172 : decode b_Mo_putWhole 172 = .ok (.bipush 65, 2) := by decide +kernel
theorem d_Mo_putWhole_174 : decode b_Mo_putWhole 174 = .ok (.goto 5, 3) := by decide +kernel
theorem d_Mo_putWhole_177 : decode b_Mo_putWhole 177 = .ok (.bipush 97, 2) := by decide +kernel
theorem d_Mo_putWhole_179 : decode b_Mo_putWhole 179 = .ok (.iload 8, 2) := by decide +kernel
theorem d_Mo_putWhole_181 : decode b_Mo_putWhole 181 = .ok (.iadd, 1) := by decide +kernel
theorem d_Mo_putWhole_182 : decode b_Mo_putWhole 182 = .ok (.bipush 10, 2) := by decide +kernel
theorem d_Mo_putWhole_184 : decode b_Mo_putWhole 184 = .ok (.isub, 1) := by decide +kernel
theorem d_Mo_putWhole_185 : decode b_Mo_putWhole 185 = .ok (.iastore, 1) := by decide +kernel
theorem d_Mo_putWhole_186 : decode b_Mo_putWhole 186 = .ok (.iinc 7 1, 3) := by decide +kernel
theorem d_Mo_putWhole_189 : decode b_Mo_putWhole 189 = .ok (.lload 5, 2) := by decide +kernel
theorem d_Mo_putWhole_191 : decode b_Mo_putWhole 191 = .ok (.iload 4, 2) := by decide +kernel
theorem d_Mo_putWhole_193 : decode b_Mo_putWhole 193 = .ok (.i2l, 1) := by decide +kernel
theorem d_Mo_putWhole_194 : decode b_Mo_putWhole 194 = .ok (.ldiv, 1) := by decide +kernel
theorem d_Mo_putWhole_195 : decode b_Mo_putWhole 195 = .ok (.lstore 5, 2) := by decide +kernel
theorem d_Mo_putWhole_197 : decode b_Mo_putWhole 197 = .ok (.lload 5, 2) := by decide +kernel
theorem d_Mo_putWhole_199 : decode b_Mo_putWhole 199 = .ok (.lconst 0, 1) := by decide +kernel
theorem d_Mo_putWhole_200 : decode b_Mo_putWhole 200 = .ok (.lcmp, 1) := by decide +kernel
theorem d_Mo_putWhole_201 : decode b_Mo_putWhole 201 = .ok (.ifCond .gt (-68), 3) := by decide +kernel
theorem d_Mo_putWhole_204 : decode b_Mo_putWhole 204 = .ok (.iload 7, 2) := by decide +kernel
theorem d_Mo_putWhole_206 : decode b_Mo_putWhole 206 = .ok (.istore 8, 2) := by decide +kernel
theorem d_Mo_putWhole_208 : decode b_Mo_putWhole 208 = .ok (.iload 8, 2) := by decide +kernel
theorem d_Mo_putWhole_210 : decode b_Mo_putWhole 210 = .ok (.aload_n 0, 1) := by decide +kernel
theorem d_Mo_putWhole_211 : decode b_Mo_putWhole 211 = .ok (.getfield 108, 3) := by decide +kernel
theorem d_Mo_putWhole_214 : decode b_Mo_putWhole 214 = .ok (.if_icmp .ge 15, 3) := by decide +kernel
theorem d_Mo_putWhole_217 : decode b_Mo_putWhole 217 = .ok (.aload_n 0, 1) := by decide +kernel
theorem d_Mo_putWhole_218 : decode b_Mo_putWhole 218 = .ok (.bipush 48, 2) := by decide +kernel
theorem d_Mo_putWhole_220 : decode b_Mo_putWhole 220 = .ok (.invokevirtual 169, 3) := by decide +kernel
theorem d_Mo_putWhole_223 : decode b_Mo_putWhole 223 = .ok (.iinc 8 1, 3) := by decide +kernel
theorem d_Mo_putWhole_226 : decode b_Mo_putWhole 226 = .ok (.goto (-18), 3) := by decide +kernel
theorem d_Mo_putWhole_229 : decode b_Mo_putWhole 229 = .ok (.iload 7, 2) := by decide +kernel
theorem d_Mo_putWhole_231 : decode b_Mo_putWhole 231 = .ok (.iconst 1, 1) := by decide +kernel
theorem d_Mo_putWhole_232 : decode b_Mo_putWhole 232 = .ok (.isub, 1) := by decide +kernel
theorem d_Mo_putWhole_233 : decode b_Mo_putWhole 233 = .ok (.istore 8, 2) := by decide +kernel
theorem d_Mo_putWhole_235 : decode b_Mo_putWhole 235 = .ok (.iload 8, 2) := by decide +kernel
theorem d_Mo_putWhole_237 : decode b_Mo_putWhole 237 = .ok (.ifCond .lt 20, 3) := by decide +kernel
theorem d_Mo_putWhole_240 : decode b_Mo_putWhole 240 = .ok (.aload_n 0, 1) := by decide +kernel
theorem d_Mo_putWhole_241 : decode b_Mo_putWhole 241 = .ok (.aload_n 0, 1) := by decide +kernel
theorem d_Mo_putWhole_242 : decode b_Mo_putWhole 242 = .ok (.getfield 50, 3) := by decide +kernel
theorem d_Mo_putWhole_245 : decode b_Mo_putWhole 245 = .ok (.iload 8, 2) := by decide +kernel
theorem d_Mo_putWhole_247 : decode b_Mo_putWhole 247 = .ok (.iaload, 1) := by decide +kernel
theorem d_Mo_putWhole_248 : decode b_Mo_putWhole 248 = .ok (.invokevirtual 169, 3) := by decide +kernel
theorem d_Mo_putWhole_251 : decode b_Mo_putWhole 251 = .ok (.iinc 8 (-1), 3) := by decide +kernel
theorem d_Mo_putWhole_254 : decode b_Mo_putWhole 254 = .ok (.goto (-19), 3) := by decide +kernel
theorem d_Mo_putWhole_257 : decode b_Mo_putWhole 257 = .ok (.return_, 1) := by decide +kernel
theorem d_Mo_putPadded_0 : decode b_Mo_putPadded 0 = .ok (.aload_n 0, 1) := by decide +kernel
theorem d_Mo_putPadded_1 : decode b_Mo_putPadded 1 = .ok (.getfield 105, 3) := by decide +kernel
theorem d_Mo_putPadded_4 : decode b_Mo_putPadded 4 = .ok (.aload_n 0, 1) := by decide +kernel
theorem d_Mo_putPadded_5 : decode b_Mo_putPadded 5 = .ok (.getfield 159, 3) := by decide +kernel
theorem d_Mo_putPadded_8 : decode b_Mo_putPadded 8 = .ok (.isub, 1) := by decide +kernel
theorem d_Mo_putPadded_9 : decode b_Mo_putPadded 9 = .ok (.aload_n 0, 1) := by decide +kernel
theorem d_Mo_putPadded_10 : decode b_Mo_putPadded 10 = .ok (.getfield 162, 3) := by decide +kernel
theorem d_Mo_putPadded_13 : decode b_Mo_putPadded 13 = .ok (.isub, 1) := by decide +kernel
theorem d_Mo_putPadded_14 : decode b_Mo_putPadded 14 = .ok (.istore_n 2, 1) := by decide +kernel
theorem d_Mo_putPadded_15 : decode b_Mo_putPadded 15 = .ok (.iconst 1, 1) := by decide +kernel
theorem d_Mo_putPadded_16 : decode b_Mo_putPadded 16 = .ok (.istore_n 3, 1) := by decide +kernel
theorem d_Mo_putPadded_17 : decode b_Mo_putPadded 17 = .ok (.aload_n 0, 1) := by decide +kernel
theorem d_Mo_putPadded_18 : decode b_Mo_putPadded 18 = .ok (.getfield 90, 3) := by decide +kernel
theorem d_Mo_putPadded_21 : decode b_Mo_putPadded 21 = .ok (.ifCond .eq 18, 3) := by decide +kernel
theorem d_Mo_putPadded_24 : decode b_Mo_putPadded 24 = .ok (.aload_n 0, 1) := by decide +kernel
theorem d_Mo_putPadded_25 : decode b_Mo_putPadded 25 = .ok (.getfield 83, 3) := by decide +kernel
theorem d_Mo_putPadded_28 : decode b_Mo_putPadded 28 = .ok (.ifCond .ne 11, 3) := by decide +kernel
theorem d_Mo_putPadded_31 : decode b_Mo_putPadded 31 = .ok (.iload_n 1, 1) := by decide +kernel
theorem d_Mo_putPadded_32 : decode b_Mo_putPadded 32 = .ok (.ifCond .ne 7, 3) := by decide +kernel
theorem d_Mo_putPadded_35 : decode b_Mo_putPadded 35 = .ok (.iconst 1, 1) := by decide +kernel
theorem d_Mo_putPadded_36 : decode b_Mo_putPadded 36 = .ok (.goto 4, 3) := by decide +kernel
theorem d_Mo_putPadded_39 : decode b_Mo_putPadded 39 = .ok (.iconst 0, 1) := by decide +kernel
theorem d_Mo_putPadded_40 : decode b_Mo_putPadded 40 = .ok (.istore 4, 2) := by decide +kernel
theorem d_Mo_putPadded_42 : decode b_Mo_putPadded 42 = .ok (.iconst 0, 1) := by decide +kernel
theorem d_Mo_putPadded_43 : decode b_Mo_putPadded 43 = .ok (.istore 5, 2) := by decide +kernel
theorem d_Mo_putPadded_45 : decode b_Mo_putPadded 45 = .ok (.iload 5, 2) := by decide +kernel
theorem d_Mo_putPadded_47 : decode b_Mo_putPadded 47 = .ok (.iload_n 2, 1) := by decide +kernel
theorem d_Mo_putPadded_48 : decode b_Mo_putPadded 48 = .ok (.if_icmp .ge 36, 3) := by decide +kernel
theorem d_Mo_putPadded_51 : decode b_Mo_putPadded 51 = .ok (.aload_n 0, 1) := by decide +kernel
theorem d_Mo_putPadded_52 : decode b_Mo_putPadded 52 = .ok (.getfield 83, 3) := by decide +kernel
theorem d_Mo_putPadded_55 : decode b_Mo_putPadded 55 = .ok (.ifCond .ne 29, 3) := by decide +kernel
theorem d_Mo_putPadded_58 : decode b_Mo_putPadded 58 = .ok (.iload 4, 2) := by decide +kernel
theorem d_Mo_putPadded_60 : decode b_Mo_putPadded 60 = .ok (.ifCond .ne 24, 3) := by decide +kernel
theorem d_Mo_putPadded_63 : decode b_Mo_putPadded 63 = .ok (.iload_n 3, 1) := by decide +kernel
theorem d_Mo_putPadded_64 : decode b_Mo_putPadded 64 = .ok (.ifCond .eq 20, 3) := by decide +kernel
theorem d_Mo_putPadded_67 : decode b_Mo_putPadded 67 = .ok (.aload_n 0, 1) := by decide +kernel
theorem d_Mo_putPadded_68 : decode b_Mo_putPadded 68 = .ok (.bipush 32, 2) := by decide +kernel
theorem d_Mo_putPadded_70 : decode b_Mo_putPadded 70 = .ok (.aload_n 0, 1) := by decide +kernel
theorem d_Mo_putPadded_71 : decode b_Mo_putPadded 71 = .ok (.getfield 123, 3) := by decide +kernel
theorem d_Mo_putPadded_74 : decode b_Mo_putPadded 74 = .ok (.invokevirtual 182, 3) := by decide +kernel
theorem d_Mo_putPadded_77 : decode b_Mo_putPadded 77 = .ok (.istore_n 3, 1) := by decide +kernel
theorem d_Mo_putPadded_78 : decode b_Mo_putPadded 78 = .ok (.iinc 5 1, 3) := by decide +kernel
theorem d_Mo_putPadded_81 : decode b_Mo_putPadded 81 = .ok (.goto (-36), 3) := by decide +kernel
theorem d_Mo_putPadded_84 : decode b_Mo_putPadded 84 = .ok (.iconst 0, 1) := by decide +kernel
theorem d_Mo_putPadded_85 : decode b_Mo_putPadded 85 = .ok (.istore 5, 2) := by decide +kernel
theorem d_Mo_putPadded_87 : decode b_Mo_putPadded 87 = .ok (.iload 5, 2) := by decide +kernel
theorem d_Mo_putPadded_89 : decode b_Mo_putPadded 89 = .ok (.aload_n 0, 1) := by decide +kernel
theorem d_Mo_putPadded_90 : decode b_Mo_putPadded 90 = .ok (.getfield 159, 3) := by decide +kernel
theorem d_Mo_putPadded_93 : decode b_Mo_putPadded 93 = .ok (.if_icmp .ge 29, 3) := by decide +kernel
theorem d_Mo_putPadded_96 : decode b_Mo_putPadded 96 = .ok (.iload_n 3, 1) := by decide +kernel
theorem d_Mo_putPadded_97 : decode b_Mo_putPadded 97 = .ok (.ifCond .eq 25, 3) := by decide +kernel
theorem d_Mo_putPadded_100 : decode b_Mo_putPadded 100 = .ok (.aload_n 0, 1) := by decide +kernel
theorem d_Mo_putPadded_101 : decode b_Mo_putPadded 101 = .ok (.aload_n 0, 1) := by decide +kernel
theorem d_Mo_putPadded_102 : decode b_Mo_putPadded 102 = .ok (.getfield 41, 3) := by decide +kernel
theorem d_Mo_putPadded_105 : decode b_Mo_putPadded 105 = .ok (.iload 5, 2) := by decide +kernel
theorem d_Mo_putPadded_107 : decode b_Mo_putPadded 107 = .ok (.iaload, 1) := by decide +kernel
theorem d_Mo_putPadded_108 : decode b_Mo_putPadded 108 = .ok (.aload_n 0, 1) := by decide +kernel
theorem d_Mo_putPadded_109 : decode b_Mo_putPadded 109 = .ok (.getfield 123, 3) := by decide +kernel
theorem d_Mo_putPadded_112 : decode b_Mo_putPadded 112 = .ok (.invokevirtual 182, 3) := by decide +kernel
theorem d_Mo_putPadded_115 : decode b_Mo_putPadded 115 = .ok (.istore_n 3, 1) := by decide +kernel
theorem d_Mo_putPadded_116 : decode b_Mo_putPadded 116 = .ok (.iinc 5 1, 3) := by decide +kernel
theorem d_Mo_putPadded_119 : decode b_Mo_putPadded 119 = .ok (.goto (-32), 3) := by decide +kernel
theorem d_Mo_putPadded_122 : decode b_Mo_putPadded 122 = .ok (.iconst 0, 1) := by decide +kernel
theorem d_Mo_putPadded_123 : decode b_Mo_putPadded 123 = .ok (.istore 5, 2) := by decide +kernel
theorem d_Mo_putPadded_125 : decode b_Mo_putPadded 125 = .ok (.iload 5, 2) := by decide +kernel
theorem d_Mo_putPadded_127 : decode b_Mo_putPadded 127 = .ok (.iload_n 2, 1) := by decide +kernel
theorem d_Mo_putPadded_128 : decode b_Mo_putPadded 128 = .ok (.if_icmp .ge 29, 3) := by decide +kernel
theorem d_Mo_putPadded_131 : decode b_Mo_putPadded 131 = .ok (.iload 4, 2) := by decide +kernel
theorem d_Mo_putPadded_133 : decode b_Mo_putPadded 133 = .ok (.ifCond .eq 24, 3) := by decide +kernel
theorem d_Mo_putPadded_136 : decode b_Mo_putPadded 136 = .ok (.iload_n 3, 1) := by decide +kernel
theorem d_Mo_putPadded_137 : decode b_Mo_putPadded 137 = .ok (.ifCond .eq 20, 3) := by decide +kernel
theorem d_Mo_putPadded_140 : decode b_Mo_putPadded 140 = .ok (.aload_n 0, 1) := by decide +kernel
theorem d_Mo_putPadded_141 : decode b_Mo_putPadded 141 = .ok (.bipush 48, 2) := by decide +kernel
theorem d_Mo_putPadded_143 : decode b_Mo_putPadded 143 = .ok (.aload_n 0, 1) := by decide +kernel
theorem d_Mo_putPadded_144 : decode b_Mo_putPadded 144 = .ok (.getfield 123, 3) := by decide +kernel
theorem d_Mo_putPadded_147 : decode b_Mo_putPadded 147 = .ok (.invokevirtual 182, 3) := by decide +kernel
theorem d_Mo_putPadded_150 : decode b_Mo_putPadded 150 = .ok (.istore_n 3, 1) := by decide +kernel
theorem d_Mo_putPadded_151 : decode b_Mo_putPadded 151 = .ok (.iinc 5 1, 3) := by decide +kernel
theorem d_Mo_putPadded_154 : decode b_Mo_putPadded 154 = .ok (.goto (-29), 3) := by decide +kernel
theorem d_Mo_putPadded_157 : decode b_Mo_putPadded 157 = .ok (.iconst 0, 1) := by decide +kernel
theorem d_Mo_putPadded_158 : decode b_Mo_putPadded 158 = .ok (.istore 5, 2) := by decide +kernel
theorem d_Mo_putPadded_160 : decode b_Mo_putPadded 160 = .ok (.iload 5, 2) := by decide +kernel
theorem d_Mo_putPadded_162 : decode b_Mo_putPadded 162 = .ok (.aload_n 0, 1) := by decide +kernel
theorem d_Mo_putPadded_163 : decode b_Mo_putPadded 163 = .ok (.getfield 162, 3) := by decide +kernel
theorem d_Mo_putPadded_166 : decode b_Mo_putPadded 166 = .ok (.if_icmp .ge 29, 3) := by decide +kernel
theorem d_Mo_putPadded_169 : decode b_Mo_putPadded 169 = .ok (.iload_n 3, 1) := by decide +kernel
theorem d_Mo_putPadded_170 : decode b_Mo_putPadded 170 = .ok (.ifCond .eq 25, 3) := by decide +kernel
theorem d_Mo_putPadded_173 : decode b_Mo_putPadded 173 = .ok (.aload_n 0, 1) := by decide +kernel
theorem d_Mo_putPadded_174 : decode b_Mo_putPadded 174 = .ok (.aload_n 0, 1) := by decide +kernel
theorem d_Mo_putPadded_175 : decode b_Mo_putPadded 175 = .ok (.getfield 44, 3) := by decide +kernel
theorem d_Mo_putPadded_178 : decode b_Mo_putPadded 178 = .ok (.iload 5, 2) := by decide +kernel
theorem d_Mo_putPadded_180 : decode b_Mo_putPadded 180 = .ok (.iaload, 1) := by decide +kernel
theorem d_Mo_putPadded_181 : decode b_Mo_putPadded 181 = .ok (.aload_n 0, 1) := by decide +kernel
theorem d_Mo_putPadded_182 : decode b_Mo_putPadded 182 = .ok (.getfield 123, 3) := by decide +kernel
theorem d_Mo_putPadded_185 : decode b_Mo_putPadded 185 = .ok (.invokevirtual 182, 3) := by decide +kernel
theorem d_Mo_putPadded_188 : decode b_Mo_putPadded 188 = .ok (.istore_n 3, 1) := by decide +kernel
theorem d_Mo_putPadded_189 : decode b_Mo_putPadded 189 = .ok (.iinc 5 1, 3) := by decide +kernel
theorem d_Mo_putPadded_192 : decode b_Mo_putPadded 192 = .ok (.goto (-32), 3) := by decide +kernel
theorem d_Mo_putPadded_195 : decode b_Mo_putPadded 195 = .ok (.iconst 0, 1) := by decide +kernel
theorem d_Mo_putPadded_196 : decode b_Mo_putPadded 196 = .ok (.istore 5, 2) := by decide +kernel
theorem d_Mo_putPadded_198 : decode b_Mo_putPadded 198 = .ok (.iload 5, 2) := by decide +kernel
theorem d_Mo_putPadded_200 : decode b_Mo_putPadded 200 = .ok (.iload_n 2, 1) := by decide +kernel
theorem d_Mo_putPadded_201 : decode b_Mo_putPadded 201 = .ok (.if_icmp .ge 31, 3) := by decide +kernel
theorem d_Mo_putPadded_204 : decode b_Mo_putPadded 204 = .ok (.aload_n 0, 1) := by decide +kernel
theorem d_Mo_putPadded_205 : decode b_Mo_putPadded 205 = .ok (.getfield 83, 3) := by decide +kernel
theorem d_Mo_putPadded_208 : decode b_Mo_putPadded 208 = .ok (.ifCond .eq 24, 3) := by decide +kernel
theorem d_Mo_putPadded_211 : decode b_Mo_putPadded 211 = .ok (.iload_n 3, 1) := by decide +kernel
theorem d_Mo_putPadded_212 : decode b_Mo_putPadded 212 = .ok (.ifCond .eq 20, 3) := by decide +kernel
theorem d_Mo_putPadded_215 : decode b_Mo_putPadded 215 = .ok (.aload_n 0, 1) := by decide +kernel
theorem d_Mo_putPadded_216 : decode b_Mo_putPadded 216 = .ok (.bipush 32, 2) := by decide +kernel
theorem d_Mo_putPadded_218 : decode b_Mo_putPadded 218 = .ok (.aload_n 0, 1) := by decide +kernel
theorem d_Mo_putPadded_219 : decode b_Mo_putPadded 219 = .ok (.getfield 123, 3) := by decide +kernel
theorem d_Mo_putPadded_222 : decode b_Mo_putPadded 222 = .ok (.invokevirtual 182, 3) := by decide +kernel
theorem d_Mo_putPadded_225 : decode b_Mo_putPadded 225 = .ok (.istore_n 3, 1) := by decide +kernel
theorem d_Mo_putPadded_226 : decode b_Mo_putPadded 226 = .ok (.iinc 5 1, 3) := by decide +kernel
theorem d_Mo_putPadded_229 : decode b_Mo_putPadded 229 = .ok (.goto (-31), 3) := by decide +kernel
theorem d_Mo_putPadded_232 : decode b_Mo_putPadded 232 = .ok (.iload_n 3, 1) := by decide +kernel
theorem d_Mo_putPadded_233 : decode b_Mo_putPadded 233 = .ok (.ireturn, 1) := by decide +kernel
theorem d_Mo_alike_0 : decode b_Mo_alike 0 = .ok (.aload_n 0, 1) := by decide +kernel
theorem d_Mo_alike_1 : decode b_Mo_alike 1 = .ok (.iconst 0, 1) := by decide +kernel
theorem d_Mo_alike_2 : decode b_Mo_alike 2 = .ok (.putfield 56, 3) := by decide +kernel
theorem d_Mo_alike_5 : decode b_Mo_alike 5 = .ok (.iload_n 1, 1) := by decide +kernel
theorem d_Mo_alike_6 : decode b_Mo_alike 6 = .ok (.ifCond .lt 38, 3) := by decide +kernel
theorem d_Mo_alike_9 : decode b_Mo_alike 9 = .ok (.iload_n 1, 1) := by decide +kernel
theorem d_Mo_alike_10 : decode b_Mo_alike 10 = .ok (.aload_n 0, 1) := by decide +kernel
theorem d_Mo_alike_11 : decode b_Mo_alike 11 = .ok (.getfield 65, 3) := by decide +kernel
theorem d_Mo_alike_14 : decode b_Mo_alike 14 = .ok (.if_icmp .ge 30, 3) := by decide +kernel
theorem d_Mo_alike_17 : decode b_Mo_alike 17 = .ok (.iload_n 2, 1) := by decide +kernel
theorem d_Mo_alike_18 : decode b_Mo_alike 18 = .ok (.ifCond .lt 26, 3) := by decide +kernel
theorem d_Mo_alike_21 : decode b_Mo_alike 21 = .ok (.iload_n 2, 1) := by decide +kernel
theorem d_Mo_alike_22 : decode b_Mo_alike 22 = .ok (.aload_n 0, 1) := by decide +kernel
theorem d_Mo_alike_23 : decode b_Mo_alike 23 = .ok (.getfield 65, 3) := by decide +kernel
theorem d_Mo_alike_26 : decode b_Mo_alike 26 = .ok (.if_icmp .ge 18, 3) := by decide +kernel
theorem d_Mo_alike_29 : decode b_Mo_alike 29 = .ok (.aload_n 0, 1) := by decide +kernel
theorem d_Mo_alike_30 : decode b_Mo_alike 30 = .ok (.getfield 13, 3) := by decide +kernel
theorem d_Mo_alike_33 : decode b_Mo_alike 33 = .ok (.iload_n 1, 1) := by decide +kernel
theorem d_Mo_alike_34 : decode b_Mo_alike 34 = .ok (.baload, 1) := by decide +kernel
theorem d_Mo_alike_35 : decode b_Mo_alike 35 = .ok (.aload_n 0, 1) := by decide +kernel
theorem d_Mo_alike_36 : decode b_Mo_alike 36 = .ok (.getfield 13, 3) := by decide +kernel
theorem d_Mo_alike_39 : decode b_Mo_alike 39 = .ok (.iload_n 2, 1) := by decide +kernel
theorem d_Mo_alike_40 : decode b_Mo_alike 40 = .ok (.baload, 1) := by decide +kernel
theorem d_Mo_alike_41 : decode b_Mo_alike 41 = .ok (.if_icmp .eq 5, 3) := by decide +kernel
theorem d_Mo_alike_44 : decode b_Mo_alike 44 = .ok (.iconst 0, 1) := by decide +kernel
theorem d_Mo_alike_45 : decode b_Mo_alike 45 = .ok (.ireturn, 1) := by decide +kernel
theorem d_Mo_alike_46 : decode b_Mo_alike 46 = .ok (.aload_n 0, 1) := by decide +kernel
theorem d_Mo_alike_47 : decode b_Mo_alike 47 = .ok (.iload_n 1, 1) := by decide +kernel
theorem d_Mo_alike_48 : decode b_Mo_alike 48 = .ok (.invokevirtual 191, 3) := by decide +kernel
theorem d_Mo_alike_51 : decode b_Mo_alike 51 = .ok (.aload_n 0, 1) := by decide +kernel
theorem d_Mo_alike_52 : decode b_Mo_alike 52 = .ok (.getfield 185, 3) := by decide +kernel
theorem d_Mo_alike_55 : decode b_Mo_alike 55 = .ok (.istore_n 3, 1) := by decide +kernel
theorem d_Mo_alike_56 : decode b_Mo_alike 56 = .ok (.iconst 0, 1) := by decide +kernel
theorem d_Mo_alike_57 : decode b_Mo_alike 57 = .ok (.istore 4, 2) := by decide +kernel
theorem d_Mo_alike_59 : decode b_Mo_alike 59 = .ok (.iload 4, 2) := by decide +kernel
theorem d_Mo_alike_61 : decode b_Mo_alike 61 = .ok (.iload_n 3, 1) := by decide +kernel
theorem d_Mo_alike_62 : decode b_Mo_alike 62 = .ok (.if_icmp .ge 23, 3) := by decide +kernel
theorem d_Mo_alike_65 : decode b_Mo_alike 65 = .ok (.aload_n 0, 1) := by decide +kernel
theorem d_Mo_alike_66 : decode b_Mo_alike 66 = .ok (.getfield 50, 3) := by decide +kernel
theorem d_Mo_alike_69 : decode b_Mo_alike 69 = .ok (.iload 4, 2) := by decide +kernel
theorem d_Mo_alike_71 : decode b_Mo_alike 71 = .ok (.aload_n 0, 1) := by decide +kernel
theorem d_Mo_alike_72 : decode b_Mo_alike 72 = .ok (.getfield 47, 3) := by decide +kernel
theorem d_Mo_alike_75 : decode b_Mo_alike 75 = .ok (.iload 4, 2) := by decide +kernel
theorem d_Mo_alike_77 : decode b_Mo_alike 77 = .ok (.iaload, 1) := by decide +kernel
theorem d_Mo_alike_78 : decode b_Mo_alike 78 = .ok (.iastore, 1) := by decide +kernel
theorem d_Mo_alike_79 : decode b_Mo_alike 79 = .ok (.iinc 4 1, 3) := by decide +kernel
theorem d_Mo_alike_82 : decode b_Mo_alike 82 = .ok (.goto (-23), 3) := by decide +kernel
theorem d_Mo_alike_85 : decode b_Mo_alike 85 = .ok (.aload_n 0, 1) := by decide +kernel
theorem d_Mo_alike_86 : decode b_Mo_alike 86 = .ok (.iload_n 2, 1) := by decide +kernel
theorem d_Mo_alike_87 : decode b_Mo_alike 87 = .ok (.invokevirtual 191, 3) := by decide +kernel
theorem d_Mo_alike_90 : decode b_Mo_alike 90 = .ok (.aload_n 0, 1) := by decide +kernel
theorem d_Mo_alike_91 : decode b_Mo_alike 91 = .ok (.getfield 185, 3) := by decide +kernel
theorem d_Mo_alike_94 : decode b_Mo_alike 94 = .ok (.iload_n 3, 1) := by decide +kernel
theorem d_Mo_alike_95 : decode b_Mo_alike 95 = .ok (.if_icmp .ne 7, 3) := by decide +kernel
theorem d_Mo_alike_98 : decode b_Mo_alike 98 = .ok (.iconst 1, 1) := by decide +kernel
theorem d_Mo_alike_99 : decode b_Mo_alike 99 = .ok (.goto 4, 3) := by decide +kernel
theorem d_Mo_alike_102 : decode b_Mo_alike 102 = .ok (.iconst 0, 1) := by decide +kernel
theorem d_Mo_alike_103 : decode b_Mo_alike 103 = .ok (.istore 4, 2) := by decide +kernel
theorem d_Mo_alike_105 : decode b_Mo_alike 105 = .ok (.iconst 0, 1) := by decide +kernel
theorem d_Mo_alike_106 : decode b_Mo_alike 106 = .ok (.istore 5, 2) := by decide +kernel
theorem d_Mo_alike_108 : decode b_Mo_alike 108 = .ok (.iload 4, 2) := by decide +kernel
theorem d_Mo_alike_110 : decode b_Mo_alike 110 = .ok (.ifCond .eq 39, 3) := by decide +kernel
theorem d_Mo_alike_113 : decode b_Mo_alike 113 = .ok (.iload 5, 2) := by decide +kernel
theorem d_Mo_alike_115 : decode b_Mo_alike 115 = .ok (.iload_n 3, 1) := by decide +kernel
theorem d_Mo_alike_116 : decode b_Mo_alike 116 = .ok (.if_icmp .ge 33, 3) := by decide +kernel
theorem d_Mo_alike_119 : decode b_Mo_alike 119 = .ok (.aload_n 0, 1) := by decide +kernel
theorem d_Mo_alike_120 : decode b_Mo_alike 120 = .ok (.getfield 47, 3) := by decide +kernel
theorem d_Mo_alike_123 : decode b_Mo_alike 123 = .ok (.iload 5, 2) := by decide +kernel
theorem d_Mo_alike_125 : decode b_Mo_alike 125 = .ok (.iaload, 1) := by decide +kernel
theorem d_Mo_alike_126 : decode b_Mo_alike 126 = .ok (.aload_n 0, 1) := by decide +kernel
theorem d_Mo_alike_127 : decode b_Mo_alike 127 = .ok (.getfield 50, 3) := by decide +kernel
theorem d_Mo_alike_130 : decode b_Mo_alike 130 = .ok (.iload 5, 2) := by decide +kernel
theorem d_Mo_alike_132 : decode b_Mo_alike 132 = .ok (.iaload, 1) := by decide +kernel
theorem d_Mo_alike_133 : decode b_Mo_alike 133 = .ok (.if_icmp .ne 7, 3) := by decide +kernel
theorem d_Mo_alike_136 : decode b_Mo_alike 136 = .ok (.iconst 1, 1) := by decide +kernel
theorem d_Mo_alike_137 : decode b_Mo_alike 137 = .ok (.goto 4, 3) := by decide +kernel
theorem d_Mo_alike_140 : decode b_Mo_alike 140 = .ok (.iconst 0, 1) := by decide +kernel
theorem d_Mo_alike_141 : decode b_Mo_alike 141 = .ok (.istore 4, 2) := by decide +kernel
theorem d_Mo_alike_143 : decode b_Mo_alike 143 = .ok (.iinc 5 1, 3) := by decide +kernel
theorem d_Mo_alike_146 : decode b_Mo_alike 146 = .ok (.goto (-38), 3) := by decide +kernel
theorem d_Mo_alike_149 : decode b_Mo_alike 149 = .ok (.iload 4, 2) := by decide +kernel
theorem d_Mo_alike_151 : decode b_Mo_alike 151 = .ok (.ireturn, 1) := by decide +kernel
