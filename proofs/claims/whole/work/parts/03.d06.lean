theorem dX12_judges_326 : decode cX12_judges 326 = .ok (.goto 19, 3) := by decide +kernel
theorem dX12_judges_329 : decode cX12_judges 329 = .ok (.iload_n 3, 1) := by decide +kernel
theorem dX12_judges_330 : decode cX12_judges 330 = .ok (.ifCond .eq 15, 3) := by decide +kernel
theorem dX12_judges_333 : decode cX12_judges 333 = .ok (.aload_n 0, 1) := by decide +kernel
theorem dX12_judges_334 : decode cX12_judges 334 = .ok (.iload 8, 2) := by decide +kernel
theorem dX12_judges_336 : decode cX12_judges 336 = .ok (.iconst 4, 1) := by decide +kernel
theorem dX12_judges_337 : decode cX12_judges 337 = .ok (.isub, 1) := by decide +kernel
theorem dX12_judges_338 : decode cX12_judges 338 = .ok (.iload_n 1, 1) := by decide +kernel
theorem dX12_judges_339 : decode cX12_judges 339 = .ok (.iload 11, 2) := by decide +kernel
theorem dX12_judges_341 : decode cX12_judges 341 = .ok (.iload_n 2, 1) := by decide +kernel
theorem dX12_judges_342 : decode cX12_judges 342 = .ok (.invokevirtual 560, 3) := by decide +kernel
theorem dX12_judges_345 : decode cX12_judges 345 = .ok (.return_, 1) := by decide +kernel
theorem dX12_clocks_0 : decode cX12_clocks 0 = .ok (.lconst 0, 1) := by decide +kernel
theorem dX12_clocks_1 : decode cX12_clocks 1 = .ok (.lstore 4, 2) := by decide +kernel
theorem dX12_clocks_3 : decode cX12_clocks 3 = .ok (.bipush 6, 2) := by decide +kernel
theorem dX12_clocks_5 : decode cX12_clocks 5 = .ok (.istore 6, 2) := by decide +kernel
theorem dX12_clocks_7 : decode cX12_clocks 7 = .ok (.iload 6, 2) := by decide +kernel
theorem dX12_clocks_9 : decode cX12_clocks 9 = .ok (.bipush 12, 2) := by decide +kernel
theorem dX12_clocks_11 : decode cX12_clocks 11 = .ok (.if_icmp .ge 26, 3) := by decide +kernel
theorem dX12_clocks_14 : decode cX12_clocks 14 = .ok (.lload 4, 2) := by decide +kernel
theorem dX12_clocks_16 : decode cX12_clocks 16 = .ok (.bipush 8, 2) := by decide +kernel
theorem dX12_clocks_18 : decode cX12_clocks 18 = .ok (.lshl, 1) := by decide +kernel
theorem dX12_clocks_19 : decode cX12_clocks 19 = .ok (.aload_n 0, 1) := by decide +kernel
theorem dX12_clocks_20 : decode cX12_clocks 20 = .ok (.iload_n 2, 1) := by decide +kernel
theorem dX12_clocks_21 : decode cX12_clocks 21 = .ok (.iload 6, 2) := by decide +kernel
theorem dX12_clocks_23 : decode cX12_clocks 23 = .ok (.iadd, 1) := by decide +kernel
theorem dX12_clocks_24 : decode cX12_clocks 24 = .ok (.invokevirtual 541, 3) := by decide +kernel
theorem dX12_clocks_27 : decode cX12_clocks 27 = .ok (.i2l, 1) := by decide +kernel
theorem dX12_clocks_28 : decode cX12_clocks 28 = .ok (.lor, 1) := by decide +kernel
theorem dX12_clocks_29 : decode cX12_clocks 29 = .ok (.lstore 4, 2) := by decide +kernel
theorem dX12_clocks_31 : decode cX12_clocks 31 = .ok (.iinc 6 1, 3) := by decide +kernel
theorem dX12_clocks_34 : decode cX12_clocks 34 = .ok (.goto (-27), 3) := by decide +kernel
theorem dX12_clocks_37 : decode cX12_clocks 37 = .ok (.aload_n 0, 1) := by decide +kernel
theorem dX12_clocks_38 : decode cX12_clocks 38 = .ok (.iload_n 3, 1) := by decide +kernel
theorem dX12_clocks_39 : decode cX12_clocks 39 = .ok (.invokevirtual 440, 3) := by decide +kernel
theorem dX12_clocks_42 : decode cX12_clocks 42 = .ok (.lload 4, 2) := by decide +kernel
theorem dX12_clocks_44 : decode cX12_clocks 44 = .ok (.aload_n 0, 1) := by decide +kernel
theorem dX12_clocks_45 : decode cX12_clocks 45 = .ok (.getfield 443, 3) := by decide +kernel
theorem dX12_clocks_48 : decode cX12_clocks 48 = .ok (.lcmp, 1) := by decide +kernel
theorem dX12_clocks_49 : decode cX12_clocks 49 = .ok (.ifCond .eq 9, 3) := by decide +kernel
theorem dX12_clocks_52 : decode cX12_clocks 52 = .ok (.aload_n 0, 1) := by decide +kernel
theorem dX12_clocks_53 : decode cX12_clocks 53 = .ok (.iconst 4, 1) := by decide +kernel
theorem dX12_clocks_54 : decode cX12_clocks 54 = .ok (.iload_n 3, 1) := by decide +kernel
theorem dX12_clocks_55 : decode cX12_clocks 55 = .ok (.invokevirtual 544, 3) := by decide +kernel
theorem dX12_clocks_58 : decode cX12_clocks 58 = .ok (.aload_n 0, 1) := by decide +kernel
theorem dX12_clocks_59 : decode cX12_clocks 59 = .ok (.getfield 209, 3) := by decide +kernel
theorem dX12_clocks_62 : decode cX12_clocks 62 = .ok (.iload_n 1, 1) := by decide +kernel
theorem dX12_clocks_63 : decode cX12_clocks 63 = .ok (.iaload, 1) := by decide +kernel
theorem dX12_clocks_64 : decode cX12_clocks 64 = .ok (.iconst (-1), 1) := by decide +kernel
theorem dX12_clocks_65 : decode cX12_clocks 65 = .ok (.if_icmp .eq 26, 3) := by decide +kernel
theorem dX12_clocks_68 : decode cX12_clocks 68 = .ok (.iload_n 3, 1) := by decide +kernel
theorem dX12_clocks_69 : decode cX12_clocks 69 = .ok (.aload_n 0, 1) := by decide +kernel
theorem dX12_clocks_70 : decode cX12_clocks 70 = .ok (.getfield 209, 3) := by decide +kernel
theorem dX12_clocks_73 : decode cX12_clocks 73 = .ok (.iload_n 1, 1) := by decide +kernel
theorem dX12_clocks_74 : decode cX12_clocks 74 = .ok (.iaload, 1) := by decide +kernel
theorem dX12_clocks_75 : decode cX12_clocks 75 = .ok (.isub, 1) := by decide +kernel
theorem dX12_clocks_76 : decode cX12_clocks 76 = .ok (.iconst 3, 1) := by decide +kernel
theorem dX12_clocks_77 : decode cX12_clocks 77 = .ok (.aload_n 0, 1) := by decide +kernel
theorem dX12_clocks_78 : decode cX12_clocks 78 = .ok (.getfield 275, 3) := by decide +kernel
theorem dX12_clocks_81 : decode cX12_clocks 81 = .ok (.imul, 1) := by decide +kernel
theorem dX12_clocks_82 : decode cX12_clocks 82 = .ok (.if_icmp .le 9, 3) := by decide +kernel
theorem dX12_clocks_85 : decode cX12_clocks 85 = .ok (.aload_n 0, 1) := by decide +kernel
theorem dX12_clocks_86 : decode cX12_clocks 86 = .ok (.iconst 5, 1) := by decide +kernel
theorem dX12_clocks_87 : decode cX12_clocks 87 = .ok (.iload_n 3, 1) := by decide +kernel
theorem dX12_clocks_88 : decode cX12_clocks 88 = .ok (.invokevirtual 544, 3) := by decide +kernel
theorem dX12_clocks_91 : decode cX12_clocks 91 = .ok (.aload_n 0, 1) := by decide +kernel
theorem dX12_clocks_92 : decode cX12_clocks 92 = .ok (.getfield 209, 3) := by decide +kernel
theorem dX12_clocks_95 : decode cX12_clocks 95 = .ok (.iload_n 1, 1) := by decide +kernel
theorem dX12_clocks_96 : decode cX12_clocks 96 = .ok (.iload_n 3, 1) := by decide +kernel
theorem dX12_clocks_97 : decode cX12_clocks 97 = .ok (.iastore, 1) := by decide +kernel
theorem dX12_clocks_98 : decode cX12_clocks 98 = .ok (.return_, 1) := by decide +kernel
theorem dX12_tables_0 : decode cX12_tables 0 = .ok (.iload_n 2, 1) := by decide +kernel
theorem dX12_tables_1 : decode cX12_tables 1 = .ok (.sipush 188, 3) := by decide +kernel
theorem dX12_tables_4 : decode cX12_tables 4 = .ok (.iadd, 1) := by decide +kernel
theorem dX12_tables_5 : decode cX12_tables 5 = .ok (.iload_n 3, 1) := by decide +kernel
theorem dX12_tables_6 : decode cX12_tables 6 = .ok (.isub, 1) := by decide +kernel
theorem dX12_tables_7 : decode cX12_tables 7 = .ok (.istore 5, 2) := by decide +kernel
theorem dX12_tables_9 : decode cX12_tables 9 = .ok (.iload 5, 2) := by decide +kernel
theorem dX12_tables_11 : decode cX12_tables 11 = .ok (.iconst 4, 1) := by decide +kernel
theorem dX12_tables_12 : decode cX12_tables 12 = .ok (.if_icmp .ge 9, 3) := by decide +kernel
theorem dX12_tables_15 : decode cX12_tables 15 = .ok (.sipush 3000, 3) := by decide +kernel
theorem dX12_tables_18 : decode cX12_tables 18 = .ok (.goto 14, 3) := by decide +kernel
theorem dX12_tables_21 : decode cX12_tables 21 = .ok (.aload_n 0, 1) := by decide +kernel
theorem dX12_tables_22 : decode cX12_tables 22 = .ok (.iload_n 3, 1) := by decide +kernel
theorem dX12_tables_23 : decode cX12_tables 23 = .ok (.iconst 2, 1) := by decide +kernel
theorem dX12_tables_24 : decode cX12_tables 24 = .ok (.iadd, 1) := by decide +kernel
theorem dX12_tables_25 : decode cX12_tables 25 = .ok (.invokevirtual 547, 3) := by decide +kernel
theorem dX12_tables_28 : decode cX12_tables 28 = .ok (.sipush 4095, 3) := by decide +kernel
theorem dX12_tables_31 : decode cX12_tables 31 = .ok (.iand, 1) := by decide +kernel
theorem dX12_tables_32 : decode cX12_tables 32 = .ok (.istore 6, 2) := by decide +kernel
theorem dX12_tables_34 : decode cX12_tables 34 = .ok (.aload_n 0, 1) := by decide +kernel
theorem dX12_tables_35 : decode cX12_tables 35 = .ok (.iload_n 2, 1) := by decide +kernel
theorem dX12_tables_36 : decode cX12_tables 36 = .ok (.iconst 1, 1) := by decide +kernel
theorem dX12_tables_37 : decode cX12_tables 37 = .ok (.iadd, 1) := by decide +kernel
theorem dX12_tables_38 : decode cX12_tables 38 = .ok (.invokevirtual 541, 3) := by decide +kernel
theorem dX12_tables_41 : decode cX12_tables 41 = .ok (.bipush 64, 2) := by decide +kernel
theorem dX12_tables_43 : decode cX12_tables 43 = .ok (.iand, 1) := by decide +kernel
theorem dX12_tables_44 : decode cX12_tables 44 = .ok (.ifCond .le 50, 3) := by decide +kernel
theorem dX12_tables_47 : decode cX12_tables 47 = .ok (.aload_n 0, 1) := by decide +kernel
theorem dX12_tables_48 : decode cX12_tables 48 = .ok (.iload_n 3, 1) := by decide +kernel
theorem dX12_tables_49 : decode cX12_tables 49 = .ok (.invokevirtual 541, 3) := by decide +kernel
theorem dX12_tables_52 : decode cX12_tables 52 = .ok (.ifCond .ne 42, 3) := by decide +kernel
theorem dX12_tables_55 : decode cX12_tables 55 = .ok (.iload 5, 2) := by decide +kernel
theorem dX12_tables_57 : decode cX12_tables 57 = .ok (.iconst 4, 1) := by decide +kernel
theorem dX12_tables_58 : decode cX12_tables 58 = .ok (.if_icmp .lt 36, 3) := by decide +kernel
theorem dX12_tables_61 : decode cX12_tables 61 = .ok (.aload_n 0, 1) := by decide +kernel
theorem dX12_tables_62 : decode cX12_tables 62 = .ok (.iload_n 3, 1) := by decide +kernel
theorem dX12_tables_63 : decode cX12_tables 63 = .ok (.iconst 1, 1) := by decide +kernel
theorem dX12_tables_64 : decode cX12_tables 64 = .ok (.iadd, 1) := by decide +kernel
theorem dX12_tables_65 : decode cX12_tables 65 = .ok (.invokevirtual 541, 3) := by decide +kernel
theorem dX12_tables_68 : decode cX12_tables 68 = .ok (.iload_n 1, 1) := by decide +kernel
theorem dX12_tables_69 : decode cX12_tables 69 = .ok (.iconst (-1), 1) := by decide +kernel
theorem dX12_tables_70 : decode cX12_tables 70 = .ok (.if_icmp .ne 7, 3) := by decide +kernel
theorem dX12_tables_73 : decode cX12_tables 73 = .ok (.iconst 0, 1) := by decide +kernel
theorem dX12_tables_74 : decode cX12_tables 74 = .ok (.goto 4, 3) := by decide +kernel
theorem dX12_tables_77 : decode cX12_tables 77 = .ok (.iconst 2, 1) := by decide +kernel
theorem dX12_tables_78 : decode cX12_tables 78 = .ok (.if_icmp .ne 16, 3) := by decide +kernel
theorem dX12_tables_81 : decode cX12_tables 81 = .ok (.iload 6, 2) := by decide +kernel
theorem dX12_tables_83 : decode cX12_tables 83 = .ok (.iconst 4, 1) := by decide +kernel
theorem dX12_tables_84 : decode cX12_tables 84 = .ok (.iadd, 1) := by decide +kernel
theorem dX12_tables_85 : decode cX12_tables 85 = .ok (.iload 5, 2) := by decide +kernel
theorem dX12_tables_87 : decode cX12_tables 87 = .ok (.if_icmp .gt 7, 3) := by decide +kernel
theorem dX12_tables_90 : decode cX12_tables 90 = .ok (.iconst 1, 1) := by decide +kernel
theorem dX12_tables_91 : decode cX12_tables 91 = .ok (.goto 4, 3) := by decide +kernel
theorem dX12_tables_94 : decode cX12_tables 94 = .ok (.iconst 0, 1) := by decide +kernel
theorem dX12_tables_95 : decode cX12_tables 95 = .ok (.istore 7, 2) := by decide +kernel
theorem dX12_tables_97 : decode cX12_tables 97 = .ok (.iload_n 1, 1) := by decide +kernel
theorem dX12_tables_98 : decode cX12_tables 98 = .ok (.iconst (-1), 1) := by decide +kernel
theorem dX12_tables_99 : decode cX12_tables 99 = .ok (.if_icmp .ne 35, 3) := by decide +kernel
theorem dX12_tables_102 : decode cX12_tables 102 = .ok (.iload 7, 2) := by decide +kernel
theorem dX12_tables_104 : decode cX12_tables 104 = .ok (.ifCond .eq 24, 3) := by decide +kernel
theorem dX12_tables_107 : decode cX12_tables 107 = .ok (.iload 6, 2) := by decide +kernel
theorem dX12_tables_109 : decode cX12_tables 109 = .ok (.bipush 9, 2) := by decide +kernel
theorem dX12_tables_111 : decode cX12_tables 111 = .ok (.if_icmp .lt 17, 3) := by decide +kernel
theorem dX12_tables_114 : decode cX12_tables 114 = .ok (.iload 6, 2) := by decide +kernel
theorem dX12_tables_116 : decode cX12_tables 116 = .ok (.bipush 9, 2) := by decide +kernel
theorem dX12_tables_118 : decode cX12_tables 118 = .ok (.isub, 1) := by decide +kernel
theorem dX12_tables_119 : decode cX12_tables 119 = .ok (.iconst 4, 1) := by decide +kernel
theorem dX12_tables_120 : decode cX12_tables 120 = .ok (.irem, 1) := by decide +kernel
theorem dX12_tables_121 : decode cX12_tables 121 = .ok (.ifCond .ne 7, 3) := by decide +kernel
theorem dX12_tables_124 : decode cX12_tables 124 = .ok (.iconst 1, 1) := by decide +kernel
theorem dX12_tables_125 : decode cX12_tables 125 = .ok (.goto 4, 3) := by decide +kernel
theorem dX12_tables_128 : decode cX12_tables 128 = .ok (.iconst 0, 1) := by decide +kernel
theorem dX12_tables_129 : decode cX12_tables 129 = .ok (.istore 7, 2) := by decide +kernel
theorem dX12_tables_131 : decode cX12_tables 131 = .ok (.goto 35, 3) := by decide +kernel
theorem dX12_tables_134 : decode cX12_tables 134 = .ok (.iload 7, 2) := by decide +kernel
theorem dX12_tables_136 : decode cX12_tables 136 = .ok (.ifCond .eq 27, 3) := by decide +kernel
theorem dX12_tables_139 : decode cX12_tables 139 = .ok (.iload 6, 2) := by decide +kernel
theorem dX12_tables_141 : decode cX12_tables 141 = .ok (.bipush 18, 2) := by decide +kernel
theorem dX12_tables_143 : decode cX12_tables 143 = .ok (.if_icmp .ne 20, 3) := by decide +kernel
theorem dX12_tables_146 : decode cX12_tables 146 = .ok (.aload_n 0, 1) := by decide +kernel
theorem dX12_tables_147 : decode cX12_tables 147 = .ok (.iload_n 3, 1) := by decide +kernel
theorem dX12_tables_148 : decode cX12_tables 148 = .ok (.iconst 4, 1) := by decide +kernel
theorem dX12_tables_149 : decode cX12_tables 149 = .ok (.iadd, 1) := by decide +kernel
theorem dX12_tables_150 : decode cX12_tables 150 = .ok (.invokevirtual 547, 3) := by decide +kernel
theorem dX12_tables_153 : decode cX12_tables 153 = .ok (.iload_n 1, 1) := by decide +kernel
theorem dX12_tables_154 : decode cX12_tables 154 = .ok (.iconst 1, 1) := by decide +kernel
theorem dX12_tables_155 : decode cX12_tables 155 = .ok (.iadd, 1) := by decide +kernel
theorem dX12_tables_156 : decode cX12_tables 156 = .ok (.if_icmp .ne 7, 3) := by decide +kernel
theorem dX12_tables_159 : decode cX12_tables 159 = .ok (.iconst 1, 1) := by decide +kernel
theorem dX12_tables_160 : decode cX12_tables 160 = .ok (.goto 4, 3) := by decide +kernel
theorem dX12_tables_163 : decode cX12_tables 163 = .ok (.iconst 0, 1) := by decide +kernel
theorem dX12_tables_164 : decode cX12_tables 164 = .ok (.istore 7, 2) := by decide +kernel
theorem dX12_tables_166 : decode cX12_tables 166 = .ok (.iload_n 3, 1) := by decide +kernel
theorem dX12_tables_167 : decode cX12_tables 167 = .ok (.iload 6, 2) := by decide +kernel
theorem dX12_tables_169 : decode cX12_tables 169 = .ok (.iadd, 1) := by decide +kernel
theorem dX12_tables_170 : decode cX12_tables 170 = .ok (.istore 8, 2) := by decide +kernel
theorem dX12_tables_172 : decode cX12_tables 172 = .ok (.iload 7, 2) := by decide +kernel
theorem dX12_tables_174 : decode cX12_tables 174 = .ok (.ifCond .eq 41, 3) := by decide +kernel
theorem dX12_tables_177 : decode cX12_tables 177 = .ok (.aload_n 0, 1) := by decide +kernel
theorem dX12_tables_178 : decode cX12_tables 178 = .ok (.iload 8, 2) := by decide +kernel
theorem dX12_tables_180 : decode cX12_tables 180 = .ok (.invokevirtual 547, 3) := by decide +kernel
theorem dX12_tables_183 : decode cX12_tables 183 = .ok (.bipush 16, 2) := by decide +kernel
theorem dX12_tables_185 : decode cX12_tables 185 = .ok (.ishl, 1) := by decide +kernel
theorem dX12_tables_186 : decode cX12_tables 186 = .ok (.aload_n 0, 1) := by decide +kernel
theorem dX12_tables_187 : decode cX12_tables 187 = .ok (.iload 8, 2) := by decide +kernel
theorem dX12_tables_189 : decode cX12_tables 189 = .ok (.iconst 2, 1) := by decide +kernel
theorem dX12_tables_190 : decode cX12_tables 190 = .ok (.iadd, 1) := by decide +kernel
theorem dX12_tables_191 : decode cX12_tables 191 = .ok (.invokevirtual 547, 3) := by decide +kernel
theorem dX12_tables_194 : decode cX12_tables 194 = .ok (.ior, 1) := by decide +kernel
theorem dX12_tables_195 : decode cX12_tables 195 = .ok (.aload_n 0, 1) := by decide +kernel
theorem dX12_tables_196 : decode cX12_tables 196 = .ok (.aload_n 0, 1) := by decide +kernel
theorem dX12_tables_197 : decode cX12_tables 197 = .ok (.getfield 173, 3) := by decide +kernel
theorem dX12_tables_200 : decode cX12_tables 200 = .ok (.iload_n 3, 1) := by decide +kernel
theorem dX12_tables_201 : decode cX12_tables 201 = .ok (.iconst 1, 1) := by decide +kernel
theorem dX12_tables_202 : decode cX12_tables 202 = .ok (.iadd, 1) := by decide +kernel
theorem dX12_tables_203 : decode cX12_tables 203 = .ok (.iload 8, 2) := by decide +kernel
theorem dX12_tables_205 : decode cX12_tables 205 = .ok (.invokevirtual 395, 3) := by decide +kernel
theorem dX12_tables_208 : decode cX12_tables 208 = .ok (.if_icmp .ne 7, 3) := by decide +kernel
theorem dX12_tables_211 : decode cX12_tables 211 = .ok (.iconst 1, 1) := by decide +kernel
theorem dX12_tables_212 : decode cX12_tables 212 = .ok (.goto 4, 3) := by decide +kernel
theorem dX12_tables_215 : decode cX12_tables 215 = .ok (.iconst 0, 1) := by decide +kernel
theorem dX12_tables_216 : decode cX12_tables 216 = .ok (.istore 7, 2) := by decide +kernel
theorem dX12_tables_218 : decode cX12_tables 218 = .ok (.iload 7, 2) := by decide +kernel
theorem dX12_tables_220 : decode cX12_tables 220 = .ok (.ifCond .ne 14, 3) := by decide +kernel
theorem dX12_tables_223 : decode cX12_tables 223 = .ok (.aload_n 0, 1) := by decide +kernel
theorem dX12_tables_224 : decode cX12_tables 224 = .ok (.bipush 6, 2) := by decide +kernel
theorem dX12_tables_226 : decode cX12_tables 226 = .ok (.iload 4, 2) := by decide +kernel
theorem dX12_tables_228 : decode cX12_tables 228 = .ok (.invokevirtual 544, 3) := by decide +kernel
theorem dX12_tables_231 : decode cX12_tables 231 = .ok (.goto 73, 3) := by decide +kernel
theorem dX12_tables_234 : decode cX12_tables 234 = .ok (.iload_n 1, 1) := by decide +kernel
theorem dX12_tables_235 : decode cX12_tables 235 = .ok (.iconst (-1), 1) := by decide +kernel
theorem dX12_tables_236 : decode cX12_tables 236 = .ok (.if_icmp .ne 15, 3) := by decide +kernel
theorem dX12_tables_239 : decode cX12_tables 239 = .ok (.aload_n 0, 1) := by decide +kernel
theorem dX12_tables_240 : decode cX12_tables 240 = .ok (.iload_n 3, 1) := by decide +kernel
theorem dX12_tables_241 : decode cX12_tables 241 = .ok (.iconst 1, 1) := by decide +kernel
theorem dX12_tables_242 : decode cX12_tables 242 = .ok (.iadd, 1) := by decide +kernel
theorem dX12_tables_243 : decode cX12_tables 243 = .ok (.iload 8, 2) := by decide +kernel
theorem dX12_tables_245 : decode cX12_tables 245 = .ok (.invokevirtual 563, 3) := by decide +kernel
theorem dX12_tables_248 : decode cX12_tables 248 = .ok (.goto 56, 3) := by decide +kernel
theorem dX12_tables_251 : decode cX12_tables 251 = .ok (.aload_n 0, 1) := by decide +kernel
theorem dX12_tables_252 : decode cX12_tables 252 = .ok (.iload_n 3, 1) := by decide +kernel
theorem dX12_tables_253 : decode cX12_tables 253 = .ok (.bipush 14, 2) := by decide +kernel
theorem dX12_tables_255 : decode cX12_tables 255 = .ok (.iadd, 1) := by decide +kernel
theorem dX12_tables_256 : decode cX12_tables 256 = .ok (.invokevirtual 547, 3) := by decide +kernel
theorem dX12_tables_259 : decode cX12_tables 259 = .ok (.sipush 8191, 3) := by decide +kernel
theorem dX12_tables_262 : decode cX12_tables 262 = .ok (.iand, 1) := by decide +kernel
theorem dX12_tables_263 : decode cX12_tables 263 = .ok (.aload_n 0, 1) := by decide +kernel
theorem dX12_tables_264 : decode cX12_tables 264 = .ok (.getfield 206, 3) := by decide +kernel
theorem dX12_tables_267 : decode cX12_tables 267 = .ok (.iload_n 1, 1) := by decide +kernel
theorem dX12_tables_268 : decode cX12_tables 268 = .ok (.iaload, 1) := by decide +kernel
theorem dX12_tables_269 : decode cX12_tables 269 = .ok (.if_icmp .eq 35, 3) := by decide +kernel
theorem dX12_tables_272 : decode cX12_tables 272 = .ok (.aload_n 0, 1) := by decide +kernel
theorem dX12_tables_273 : decode cX12_tables 273 = .ok (.getfield 206, 3) := by decide +kernel
theorem dX12_tables_276 : decode cX12_tables 276 = .ok (.iload_n 1, 1) := by decide +kernel
theorem dX12_tables_277 : decode cX12_tables 277 = .ok (.aload_n 0, 1) := by decide +kernel
theorem dX12_tables_278 : decode cX12_tables 278 = .ok (.iload_n 3, 1) := by decide +kernel
theorem dX12_tables_279 : decode cX12_tables 279 = .ok (.bipush 14, 2) := by decide +kernel
theorem dX12_tables_281 : decode cX12_tables 281 = .ok (.iadd, 1) := by decide +kernel
theorem dX12_tables_282 : decode cX12_tables 282 = .ok (.invokevirtual 547, 3) := by decide +kernel
theorem dX12_tables_285 : decode cX12_tables 285 = .ok (.sipush 8191, 3) := by decide +kernel
theorem dX12_tables_288 : decode cX12_tables 288 = .ok (.iand, 1) := by decide +kernel
theorem dX12_tables_289 : decode cX12_tables 289 = .ok (.iastore, 1) := by decide +kernel
theorem dX12_tables_290 : decode cX12_tables 290 = .ok (.aload_n 0, 1) := by decide +kernel
theorem dX12_tables_291 : decode cX12_tables 291 = .ok (.getfield 212, 3) := by decide +kernel
theorem dX12_tables_294 : decode cX12_tables 294 = .ok (.iload_n 1, 1) := by decide +kernel
theorem dX12_tables_295 : decode cX12_tables 295 = .ok (.iconst (-1), 1) := by decide +kernel
theorem dX12_tables_296 : decode cX12_tables 296 = .ok (.iastore, 1) := by decide +kernel
theorem dX12_tables_297 : decode cX12_tables 297 = .ok (.aload_n 0, 1) := by decide +kernel
theorem dX12_tables_298 : decode cX12_tables 298 = .ok (.getfield 209, 3) := by decide +kernel
theorem dX12_tables_301 : decode cX12_tables 301 = .ok (.iload_n 1, 1) := by decide +kernel
theorem dX12_tables_302 : decode cX12_tables 302 = .ok (.iconst (-1), 1) := by decide +kernel
theorem dX12_tables_303 : decode cX12_tables 303 = .ok (.iastore, 1) := by decide +kernel
theorem dX12_tables_304 : decode cX12_tables 304 = .ok (.return_, 1) := by decide +kernel
theorem dX12_listed_0 : decode cX12_listed 0 = .ok (.aload_n 0, 1) := by decide +kernel
theorem dX12_listed_1 : decode cX12_listed 1 = .ok (.getfield 239, 3) := by decide +kernel
theorem dX12_listed_4 : decode cX12_listed 4 = .ok (.astore_n 3, 1) := by decide +kernel
theorem dX12_listed_5 : decode cX12_listed 5 = .ok (.iconst 0, 1) := by decide +kernel
theorem dX12_listed_6 : decode cX12_listed 6 = .ok (.istore 4, 2) := by decide +kernel
theorem dX12_listed_8 : decode cX12_listed 8 = .ok (.iload 4, 2) := by decide +kernel
theorem dX12_listed_10 : decode cX12_listed 10 = .ok (.iconst 3, 1) := by decide +kernel
theorem dX12_listed_11 : decode cX12_listed 11 = .ok (.if_icmp .ge 14, 3) := by decide +kernel
theorem dX12_listed_14 : decode cX12_listed 14 = .ok (.aload_n 3, 1) := by decide +kernel
theorem dX12_listed_15 : decode cX12_listed 15 = .ok (.iload 4, 2) := by decide +kernel
theorem dX12_listed_17 : decode cX12_listed 17 = .ok (.iconst (-1), 1) := by decide +kernel
theorem dX12_listed_18 : decode cX12_listed 18 = .ok (.iastore, 1) := by decide +kernel
theorem dX12_listed_19 : decode cX12_listed 19 = .ok (.iinc 4 1, 3) := by decide +kernel
theorem dX12_listed_22 : decode cX12_listed 22 = .ok (.goto (-14), 3) := by decide +kernel
theorem dX12_listed_25 : decode cX12_listed 25 = .ok (.iload_n 1, 1) := by decide +kernel
theorem dX12_listed_26 : decode cX12_listed 26 = .ok (.bipush 8, 2) := by decide +kernel
theorem dX12_listed_28 : decode cX12_listed 28 = .ok (.iadd, 1) := by decide +kernel
theorem dX12_listed_29 : decode cX12_listed 29 = .ok (.istore 4, 2) := by decide +kernel
theorem dX12_listed_31 : decode cX12_listed 31 = .ok (.iload 4, 2) := by decide +kernel
theorem dX12_listed_33 : decode cX12_listed 33 = .ok (.iload_n 2, 1) := by decide +kernel
theorem dX12_listed_34 : decode cX12_listed 34 = .ok (.if_icmp .ge 43, 3) := by decide +kernel
theorem dX12_listed_37 : decode cX12_listed 37 = .ok (.aload_n 0, 1) := by decide +kernel
theorem dX12_listed_38 : decode cX12_listed 38 = .ok (.iload 4, 2) := by decide +kernel
theorem dX12_listed_40 : decode cX12_listed 40 = .ok (.invokevirtual 547, 3) := by decide +kernel
theorem dX12_listed_43 : decode cX12_listed 43 = .ok (.iconst 1, 1) := by decide +kernel
theorem dX12_listed_44 : decode cX12_listed 44 = .ok (.isub, 1) := by decide +kernel
theorem dX12_listed_45 : decode cX12_listed 45 = .ok (.istore 5, 2) := by decide +kernel
theorem dX12_listed_47 : decode cX12_listed 47 = .ok (.iload 5, 2) := by decide +kernel
theorem dX12_listed_49 : decode cX12_listed 49 = .ok (.invokestatic 308, 3) := by decide +kernel
theorem dX12_listed_52 : decode cX12_listed 52 = .ok (.ifCond .eq 19, 3) := by decide +kernel
theorem dX12_listed_55 : decode cX12_listed 55 = .ok (.aload_n 3, 1) := by decide +kernel
theorem dX12_listed_56 : decode cX12_listed 56 = .ok (.iload 5, 2) := by decide +kernel
theorem dX12_listed_58 : decode cX12_listed 58 = .ok (.aload_n 0, 1) := by decide +kernel
theorem dX12_listed_59 : decode cX12_listed 59 = .ok (.iload 4, 2) := by decide +kernel
theorem dX12_listed_61 : decode cX12_listed 61 = .ok (.iconst 2, 1) := by decide +kernel
theorem dX12_listed_62 : decode cX12_listed 62 = .ok (.iadd, 1) := by decide +kernel
theorem dX12_listed_63 : decode cX12_listed 63 = .ok (.invokevirtual 547, 3) := by decide +kernel
theorem dX12_listed_66 : decode cX12_listed 66 = .ok (.sipush 8191, 3) := by decide +kernel
theorem dX12_listed_69 : decode cX12_listed 69 = .ok (.iand, 1) := by decide +kernel
theorem dX12_listed_70 : decode cX12_listed 70 = .ok (.iastore, 1) := by decide +kernel
theorem dX12_listed_71 : decode cX12_listed 71 = .ok (.iinc 4 4, 3) := by decide +kernel
theorem dX12_listed_74 : decode cX12_listed 74 = .ok (.goto (-43), 3) := by decide +kernel
theorem dX12_listed_77 : decode cX12_listed 77 = .ok (.iconst 0, 1) := by decide +kernel
theorem dX12_listed_78 : decode cX12_listed 78 = .ok (.istore 4, 2) := by decide +kernel
theorem dX12_listed_80 : decode cX12_listed 80 = .ok (.iload 4, 2) := by decide +kernel
theorem dX12_listed_82 : decode cX12_listed 82 = .ok (.iconst 3, 1) := by decide +kernel
theorem dX12_listed_83 : decode cX12_listed 83 = .ok (.if_icmp .ge 66, 3) := by decide +kernel
theorem dX12_listed_86 : decode cX12_listed 86 = .ok (.aload_n 3, 1) := by decide +kernel
theorem dX12_listed_87 : decode cX12_listed 87 = .ok (.iload 4, 2) := by decide +kernel
theorem dX12_listed_89 : decode cX12_listed 89 = .ok (.iaload, 1) := by decide +kernel
theorem dX12_listed_90 : decode cX12_listed 90 = .ok (.iconst (-1), 1) := by decide +kernel
theorem dX12_listed_91 : decode cX12_listed 91 = .ok (.if_icmp .eq 17, 3) := by decide +kernel
theorem dX12_listed_94 : decode cX12_listed 94 = .ok (.aload_n 3, 1) := by decide +kernel
theorem dX12_listed_95 : decode cX12_listed 95 = .ok (.iload 4, 2) := by decide +kernel
theorem dX12_listed_97 : decode cX12_listed 97 = .ok (.iaload, 1) := by decide +kernel
theorem dX12_listed_98 : decode cX12_listed 98 = .ok (.aload_n 0, 1) := by decide +kernel
theorem dX12_listed_99 : decode cX12_listed 99 = .ok (.getfield 203, 3) := by decide +kernel
theorem dX12_listed_102 : decode cX12_listed 102 = .ok (.iload 4, 2) := by decide +kernel
theorem dX12_listed_104 : decode cX12_listed 104 = .ok (.iaload, 1) := by decide +kernel
theorem dX12_listed_105 : decode cX12_listed 105 = .ok (.if_icmp .eq 27, 3) := by decide +kernel
theorem dX12_listed_108 : decode cX12_listed 108 = .ok (.aload_n 0, 1) := by decide +kernel
theorem dX12_listed_109 : decode cX12_listed 109 = .ok (.getfield 206, 3) := by decide +kernel
theorem dX12_listed_112 : decode cX12_listed 112 = .ok (.iload 4, 2) := by decide +kernel
theorem dX12_listed_114 : decode cX12_listed 114 = .ok (.iconst (-1), 1) := by decide +kernel
theorem dX12_listed_115 : decode cX12_listed 115 = .ok (.iastore, 1) := by decide +kernel
theorem dX12_listed_116 : decode cX12_listed 116 = .ok (.aload_n 0, 1) := by decide +kernel
theorem dX12_listed_117 : decode cX12_listed 117 = .ok (.getfield 212, 3) := by decide +kernel
theorem dX12_listed_120 : decode cX12_listed 120 = .ok (.iload 4, 2) := by decide +kernel
theorem dX12_listed_122 : decode cX12_listed 122 = .ok (.iconst (-1), 1) := by decide +kernel
theorem dX12_listed_123 : decode cX12_listed 123 = .ok (.iastore, 1) := by decide +kernel
theorem dX12_listed_124 : decode cX12_listed 124 = .ok (.aload_n 0, 1) := by decide +kernel
theorem dX12_listed_125 : decode cX12_listed 125 = .ok (.getfield 209, 3) := by decide +kernel
theorem dX12_listed_128 : decode cX12_listed 128 = .ok (.iload 4, 2) := by decide +kernel
theorem dX12_listed_130 : decode cX12_listed 130 = .ok (.iconst (-1), 1) := by decide +kernel
theorem dX12_listed_131 : decode cX12_listed 131 = .ok (.iastore, 1) := by decide +kernel
theorem dX12_listed_132 : decode cX12_listed 132 = .ok (.aload_n 0, 1) := by decide +kernel
theorem dX12_listed_133 : decode cX12_listed 133 = .ok (.getfield 203, 3) := by decide +kernel
theorem dX12_listed_136 : decode cX12_listed 136 = .ok (.iload 4, 2) := by decide +kernel
theorem dX12_listed_138 : decode cX12_listed 138 = .ok (.aload_n 3, 1) := by decide +kernel
theorem dX12_listed_139 : decode cX12_listed 139 = .ok (.iload 4, 2) := by decide +kernel
theorem dX12_listed_141 : decode cX12_listed 141 = .ok (.iaload, 1) := by decide +kernel
theorem dX12_listed_142 : decode cX12_listed 142 = .ok (.iastore, 1) := by decide +kernel
theorem dX12_listed_143 : decode cX12_listed 143 = .ok (.iinc 4 1, 3) := by decide +kernel
theorem dX12_listed_146 : decode cX12_listed 146 = .ok (.goto (-66), 3) := by decide +kernel
theorem dX12_listed_149 : decode cX12_listed 149 = .ok (.return_, 1) := by decide +kernel
theorem dX12_pieces_0 : decode cX12_pieces 0 = .ok (.aload_n 0, 1) := by decide +kernel
theorem dX12_pieces_1 : decode cX12_pieces 1 = .ok (.iload_n 2, 1) := by decide +kernel
theorem dX12_pieces_2 : decode cX12_pieces 2 = .ok (.iconst 1, 1) := by decide +kernel
theorem dX12_pieces_3 : decode cX12_pieces 3 = .ok (.iadd, 1) := by decide +kernel
theorem dX12_pieces_4 : decode cX12_pieces 4 = .ok (.invokevirtual 541, 3) := by decide +kernel
theorem dX12_pieces_7 : decode cX12_pieces 7 = .ok (.bipush 64, 2) := by decide +kernel
theorem dX12_pieces_9 : decode cX12_pieces 9 = .ok (.iand, 1) := by decide +kernel
theorem dX12_pieces_10 : decode cX12_pieces 10 = .ok (.ifCond .le 28, 3) := by decide +kernel
theorem dX12_pieces_13 : decode cX12_pieces 13 = .ok (.aload_n 0, 1) := by decide +kernel
theorem dX12_pieces_14 : decode cX12_pieces 14 = .ok (.getfield 212, 3) := by decide +kernel
theorem dX12_pieces_17 : decode cX12_pieces 17 = .ok (.iload_n 1, 1) := by decide +kernel
theorem dX12_pieces_18 : decode cX12_pieces 18 = .ok (.iaload, 1) := by decide +kernel
theorem dX12_pieces_19 : decode cX12_pieces 19 = .ok (.iconst (-1), 1) := by decide +kernel
theorem dX12_pieces_20 : decode cX12_pieces 20 = .ok (.if_icmp .eq 11, 3) := by decide +kernel
theorem dX12_pieces_23 : decode cX12_pieces 23 = .ok (.aload_n 0, 1) := by decide +kernel
theorem dX12_pieces_24 : decode cX12_pieces 24 = .ok (.bipush 7, 2) := by decide +kernel
theorem dX12_pieces_26 : decode cX12_pieces 26 = .ok (.iload 4, 2) := by decide +kernel
theorem dX12_pieces_28 : decode cX12_pieces 28 = .ok (.invokevirtual 544, 3) := by decide +kernel
theorem dX12_pieces_31 : decode cX12_pieces 31 = .ok (.aload_n 0, 1) := by decide +kernel
theorem dX12_pieces_32 : decode cX12_pieces 32 = .ok (.getfield 212, 3) := by decide +kernel
theorem dX12_pieces_35 : decode cX12_pieces 35 = .ok (.iload_n 1, 1) := by decide +kernel
theorem dX12_pieces_36 : decode cX12_pieces 36 = .ok (.iconst 0, 1) := by decide +kernel
theorem dX12_pieces_37 : decode cX12_pieces 37 = .ok (.iastore, 1) := by decide +kernel
theorem dX12_pieces_38 : decode cX12_pieces 38 = .ok (.aload_n 0, 1) := by decide +kernel
theorem dX12_pieces_39 : decode cX12_pieces 39 = .ok (.getfield 212, 3) := by decide +kernel
theorem dX12_pieces_42 : decode cX12_pieces 42 = .ok (.iload_n 1, 1) := by decide +kernel
theorem dX12_pieces_43 : decode cX12_pieces 43 = .ok (.iaload, 1) := by decide +kernel
theorem dX12_pieces_44 : decode cX12_pieces 44 = .ok (.iconst (-1), 1) := by decide +kernel
theorem dX12_pieces_45 : decode cX12_pieces 45 = .ok (.if_icmp .ne 4, 3) := by decide +kernel
theorem dX12_pieces_48 : decode cX12_pieces 48 = .ok (.return_, 1) := by decide +kernel
theorem dX12_pieces_49 : decode cX12_pieces 49 = .ok (.iload_n 3, 1) := by decide +kernel
theorem dX12_pieces_50 : decode cX12_pieces 50 = .ok (.istore 5, 2) := by decide +kernel
theorem dX12_pieces_52 : decode cX12_pieces 52 = .ok (.iload 5, 2) := by decide +kernel
theorem dX12_pieces_54 : decode cX12_pieces 54 = .ok (.iload_n 2, 1) := by decide +kernel
theorem dX12_pieces_55 : decode cX12_pieces 55 = .ok (.sipush 188, 3) := by decide +kernel
theorem dX12_pieces_58 : decode cX12_pieces 58 = .ok (.iadd, 1) := by decide +kernel
theorem dX12_pieces_59 : decode cX12_pieces 59 = .ok (.if_icmp .ge 38, 3) := by decide +kernel
theorem dX12_pieces_62 : decode cX12_pieces 62 = .ok (.aload_n 0, 1) := by decide +kernel
theorem dX12_pieces_63 : decode cX12_pieces 63 = .ok (.getfield 215, 3) := by decide +kernel
theorem dX12_pieces_66 : decode cX12_pieces 66 = .ok (.sipush 3200, 3) := by decide +kernel
theorem dX12_pieces_69 : decode cX12_pieces 69 = .ok (.iload_n 1, 1) := by decide +kernel
theorem dX12_pieces_70 : decode cX12_pieces 70 = .ok (.imul, 1) := by decide +kernel
theorem dX12_pieces_71 : decode cX12_pieces 71 = .ok (.aload_n 0, 1) := by decide +kernel
theorem dX12_pieces_72 : decode cX12_pieces 72 = .ok (.getfield 212, 3) := by decide +kernel
theorem dX12_pieces_75 : decode cX12_pieces 75 = .ok (.iload_n 1, 1) := by decide +kernel
theorem dX12_pieces_76 : decode cX12_pieces 76 = .ok (.dup2, 1) := by decide +kernel
theorem dX12_pieces_77 : decode cX12_pieces 77 = .ok (.iaload, 1) := by decide +kernel
theorem dX12_pieces_78 : decode cX12_pieces 78 = .ok (.dup_x2, 1) := by decide +kernel
theorem dX12_pieces_79 : decode cX12_pieces 79 = .ok (.iconst 1, 1) := by decide +kernel
theorem dX12_pieces_80 : decode cX12_pieces 80 = .ok (.iadd, 1) := by decide +kernel
theorem dX12_pieces_81 : decode cX12_pieces 81 = .ok (.iastore, 1) := by decide +kernel
theorem dX12_pieces_82 : decode cX12_pieces 82 = .ok (.iadd, 1) := by decide +kernel
theorem dX12_pieces_83 : decode cX12_pieces 83 = .ok (.aload_n 0, 1) := by decide +kernel
theorem dX12_pieces_84 : decode cX12_pieces 84 = .ok (.getfield 173, 3) := by decide +kernel
theorem dX12_pieces_87 : decode cX12_pieces 87 = .ok (.iload 5, 2) := by decide +kernel
theorem dX12_pieces_89 : decode cX12_pieces 89 = .ok (.baload, 1) := by decide +kernel
theorem dX12_pieces_90 : decode cX12_pieces 90 = .ok (.bastore, 1) := by decide +kernel
theorem dX12_pieces_91 : decode cX12_pieces 91 = .ok (.iinc 5 1, 3) := by decide +kernel
theorem dX12_pieces_94 : decode cX12_pieces 94 = .ok (.goto (-42), 3) := by decide +kernel
theorem dX12_pieces_97 : decode cX12_pieces 97 = .ok (.sipush 3200, 3) := by decide +kernel
theorem dX12_pieces_100 : decode cX12_pieces 100 = .ok (.iload_n 1, 1) := by decide +kernel
theorem dX12_pieces_101 : decode cX12_pieces 101 = .ok (.imul, 1) := by decide +kernel
theorem dX12_pieces_102 : decode cX12_pieces 102 = .ok (.istore 5, 2) := by decide +kernel
theorem dX12_pieces_104 : decode cX12_pieces 104 = .ok (.aload_n 0, 1) := by decide +kernel
theorem dX12_pieces_105 : decode cX12_pieces 105 = .ok (.getfield 212, 3) := by decide +kernel
theorem dX12_pieces_108 : decode cX12_pieces 108 = .ok (.iload_n 1, 1) := by decide +kernel
theorem dX12_pieces_109 : decode cX12_pieces 109 = .ok (.iaload, 1) := by decide +kernel
theorem dX12_pieces_110 : decode cX12_pieces 110 = .ok (.bipush 6, 2) := by decide +kernel
theorem dX12_pieces_112 : decode cX12_pieces 112 = .ok (.if_icmp .ge 4, 3) := by decide +kernel
theorem dX12_pieces_115 : decode cX12_pieces 115 = .ok (.return_, 1) := by decide +kernel
theorem dX12_pieces_116 : decode cX12_pieces 116 = .ok (.aload_n 0, 1) := by decide +kernel
theorem dX12_pieces_117 : decode cX12_pieces 117 = .ok (.iload 5, 2) := by decide +kernel
theorem dX12_pieces_119 : decode cX12_pieces 119 = .ok (.iconst 4, 1) := by decide +kernel
theorem dX12_pieces_120 : decode cX12_pieces 120 = .ok (.iadd, 1) := by decide +kernel
theorem dX12_pieces_121 : decode cX12_pieces 121 = .ok (.invokevirtual 566, 3) := by decide +kernel
theorem dX12_pieces_124 : decode cX12_pieces 124 = .ok (.istore 6, 2) := by decide +kernel
theorem dX12_pieces_126 : decode cX12_pieces 126 = .ok (.aload_n 0, 1) := by decide +kernel
theorem dX12_pieces_127 : decode cX12_pieces 127 = .ok (.iload 5, 2) := by decide +kernel
theorem dX12_pieces_129 : decode cX12_pieces 129 = .ok (.invokevirtual 566, 3) := by decide +kernel
theorem dX12_pieces_132 : decode cX12_pieces 132 = .ok (.ifCond .ne 46, 3) := by decide +kernel
theorem dX12_pieces_135 : decode cX12_pieces 135 = .ok (.aload_n 0, 1) := by decide +kernel
theorem dX12_pieces_136 : decode cX12_pieces 136 = .ok (.iload 5, 2) := by decide +kernel
theorem dX12_pieces_138 : decode cX12_pieces 138 = .ok (.iconst 2, 1) := by decide +kernel
theorem dX12_pieces_139 : decode cX12_pieces 139 = .ok (.iadd, 1) := by decide +kernel
theorem dX12_pieces_140 : decode cX12_pieces 140 = .ok (.invokevirtual 566, 3) := by decide +kernel
theorem dX12_pieces_143 : decode cX12_pieces 143 = .ok (.sipush 480, 3) := by decide +kernel
theorem dX12_pieces_146 : decode cX12_pieces 146 = .ok (.if_icmp .ne 32, 3) := by decide +kernel
theorem dX12_pieces_149 : decode cX12_pieces 149 = .ok (.iload 6, 2) := by decide +kernel
theorem dX12_pieces_151 : decode cX12_pieces 151 = .ok (.i2l, 1) := by decide +kernel
theorem dX12_pieces_152 : decode cX12_pieces 152 = .ok (.ldc2_w 569, 3) := by decide +kernel
theorem dX12_pieces_155 : decode cX12_pieces 155 = .ok (.ldc2_w 571, 3) := by decide +kernel
theorem dX12_pieces_158 : decode cX12_pieces 158 = .ok (.invokestatic 287, 3) := by decide +kernel
theorem dX12_pieces_161 : decode cX12_pieces 161 = .ok (.ifCond .eq 17, 3) := by decide +kernel
theorem dX12_pieces_164 : decode cX12_pieces 164 = .ok (.aload_n 0, 1) := by decide +kernel
theorem dX12_pieces_165 : decode cX12_pieces 165 = .ok (.getfield 212, 3) := by decide +kernel
theorem dX12_pieces_168 : decode cX12_pieces 168 = .ok (.iload_n 1, 1) := by decide +kernel
theorem dX12_pieces_169 : decode cX12_pieces 169 = .ok (.iaload, 1) := by decide +kernel
theorem dX12_pieces_170 : decode cX12_pieces 170 = .ok (.bipush 6, 2) := by decide +kernel
theorem dX12_pieces_172 : decode cX12_pieces 172 = .ok (.iload 6, 2) := by decide +kernel
theorem dX12_pieces_174 : decode cX12_pieces 174 = .ok (.iadd, 1) := by decide +kernel
theorem dX12_pieces_175 : decode cX12_pieces 175 = .ok (.if_icmp .le 7, 3) := by decide +kernel
theorem dX12_pieces_178 : decode cX12_pieces 178 = .ok (.iconst 1, 1) := by decide +kernel
theorem dX12_pieces_179 : decode cX12_pieces 179 = .ok (.goto 4, 3) := by decide +kernel
theorem dX12_pieces_182 : decode cX12_pieces 182 = .ok (.iconst 0, 1) := by decide +kernel
theorem dX12_pieces_183 : decode cX12_pieces 183 = .ok (.istore 7, 2) := by decide +kernel
theorem dX12_pieces_185 : decode cX12_pieces 185 = .ok (.iload 7, 2) := by decide +kernel
theorem dX12_pieces_187 : decode cX12_pieces 187 = .ok (.ifCond .ne 21, 3) := by decide +kernel
theorem dX12_pieces_190 : decode cX12_pieces 190 = .ok (.aload_n 0, 1) := by decide +kernel
theorem dX12_pieces_191 : decode cX12_pieces 191 = .ok (.getfield 212, 3) := by decide +kernel
theorem dX12_pieces_194 : decode cX12_pieces 194 = .ok (.iload_n 1, 1) := by decide +kernel
theorem dX12_pieces_195 : decode cX12_pieces 195 = .ok (.iaload, 1) := by decide +kernel
theorem dX12_pieces_196 : decode cX12_pieces 196 = .ok (.bipush 6, 2) := by decide +kernel
theorem dX12_pieces_198 : decode cX12_pieces 198 = .ok (.iload 6, 2) := by decide +kernel
theorem dX12_pieces_200 : decode cX12_pieces 200 = .ok (.iadd, 1) := by decide +kernel
theorem dX12_pieces_201 : decode cX12_pieces 201 = .ok (.if_icmp .ne 7, 3) := by decide +kernel
theorem dX12_pieces_204 : decode cX12_pieces 204 = .ok (.iconst 1, 1) := by decide +kernel
theorem dX12_pieces_205 : decode cX12_pieces 205 = .ok (.goto 4, 3) := by decide +kernel
theorem dX12_pieces_208 : decode cX12_pieces 208 = .ok (.iconst 0, 1) := by decide +kernel
theorem dX12_pieces_209 : decode cX12_pieces 209 = .ok (.istore 8, 2) := by decide +kernel
theorem dX12_pieces_211 : decode cX12_pieces 211 = .ok (.iload 8, 2) := by decide +kernel
theorem dX12_pieces_213 : decode cX12_pieces 213 = .ok (.ifCond .eq 21, 3) := by decide +kernel
theorem dX12_pieces_216 : decode cX12_pieces 216 = .ok (.aload_n 0, 1) := by decide +kernel
theorem dX12_pieces_217 : decode cX12_pieces 217 = .ok (.iload_n 1, 1) := by decide +kernel
theorem dX12_pieces_218 : decode cX12_pieces 218 = .ok (.iload 5, 2) := by decide +kernel
theorem dX12_pieces_220 : decode cX12_pieces 220 = .ok (.iload 5, 2) := by decide +kernel
theorem dX12_pieces_222 : decode cX12_pieces 222 = .ok (.bipush 6, 2) := by decide +kernel
theorem dX12_pieces_224 : decode cX12_pieces 224 = .ok (.iadd, 1) := by decide +kernel
theorem dX12_pieces_225 : decode cX12_pieces 225 = .ok (.iload 6, 2) := by decide +kernel
theorem dX12_pieces_227 : decode cX12_pieces 227 = .ok (.iadd, 1) := by decide +kernel
theorem dX12_pieces_228 : decode cX12_pieces 228 = .ok (.invokevirtual 573, 3) := by decide +kernel
theorem dX12_pieces_231 : decode cX12_pieces 231 = .ok (.goto 4, 3) := by decide +kernel
theorem dX12_pieces_234 : decode cX12_pieces 234 = .ok (.iconst (-1), 1) := by decide +kernel
theorem dX12_pieces_235 : decode cX12_pieces 235 = .ok (.istore 9, 2) := by decide +kernel
theorem dX12_pieces_237 : decode cX12_pieces 237 = .ok (.iload 7, 2) := by decide +kernel
theorem dX12_pieces_239 : decode cX12_pieces 239 = .ok (.ifCond .ne 14, 3) := by decide +kernel
theorem dX12_pieces_242 : decode cX12_pieces 242 = .ok (.iload 8, 2) := by decide +kernel
theorem dX12_pieces_244 : decode cX12_pieces 244 = .ok (.ifCond .eq 17, 3) := by decide +kernel
theorem dX12_pieces_247 : decode cX12_pieces 247 = .ok (.iload 9, 2) := by decide +kernel
theorem dX12_pieces_249 : decode cX12_pieces 249 = .ok (.iconst (-1), 1) := by decide +kernel
theorem dX12_pieces_250 : decode cX12_pieces 250 = .ok (.if_icmp .ne 11, 3) := by decide +kernel
theorem dX12_pieces_253 : decode cX12_pieces 253 = .ok (.aload_n 0, 1) := by decide +kernel
theorem dX12_pieces_254 : decode cX12_pieces 254 = .ok (.bipush 8, 2) := by decide +kernel
theorem dX12_pieces_256 : decode cX12_pieces 256 = .ok (.iload 4, 2) := by decide +kernel
theorem dX12_pieces_258 : decode cX12_pieces 258 = .ok (.invokevirtual 544, 3) := by decide +kernel
theorem dX12_pieces_261 : decode cX12_pieces 261 = .ok (.iload 7, 2) := by decide +kernel
theorem dX12_pieces_263 : decode cX12_pieces 263 = .ok (.ifCond .ne 8, 3) := by decide +kernel
theorem dX12_pieces_266 : decode cX12_pieces 266 = .ok (.iload 8, 2) := by decide +kernel
theorem dX12_pieces_268 : decode cX12_pieces 268 = .ok (.ifCond .eq 10, 3) := by decide +kernel
theorem dX12_pieces_271 : decode cX12_pieces 271 = .ok (.aload_n 0, 1) := by decide +kernel
theorem dX12_pieces_272 : decode cX12_pieces 272 = .ok (.getfield 212, 3) := by decide +kernel
theorem dX12_pieces_275 : decode cX12_pieces 275 = .ok (.iload_n 1, 1) := by decide +kernel
theorem dX12_pieces_276 : decode cX12_pieces 276 = .ok (.iconst (-1), 1) := by decide +kernel
theorem dX12_pieces_277 : decode cX12_pieces 277 = .ok (.iastore, 1) := by decide +kernel
theorem dX12_pieces_278 : decode cX12_pieces 278 = .ok (.iload 9, 2) := by decide +kernel
theorem dX12_pieces_280 : decode cX12_pieces 280 = .ok (.iconst (-1), 1) := by decide +kernel
theorem dX12_pieces_281 : decode cX12_pieces 281 = .ok (.if_icmp .eq 15, 3) := by decide +kernel
theorem dX12_pieces_284 : decode cX12_pieces 284 = .ok (.aload_n 0, 1) := by decide +kernel
theorem dX12_pieces_285 : decode cX12_pieces 285 = .ok (.iload_n 1, 1) := by decide +kernel
theorem dX12_pieces_286 : decode cX12_pieces 286 = .ok (.iload 5, 2) := by decide +kernel
theorem dX12_pieces_288 : decode cX12_pieces 288 = .ok (.bipush 14, 2) := by decide +kernel
theorem dX12_pieces_290 : decode cX12_pieces 290 = .ok (.iadd, 1) := by decide +kernel
theorem dX12_pieces_291 : decode cX12_pieces 291 = .ok (.iload 9, 2) := by decide +kernel
theorem dX12_pieces_293 : decode cX12_pieces 293 = .ok (.invokevirtual 577, 3) := by decide +kernel
theorem dX12_pieces_296 : decode cX12_pieces 296 = .ok (.return_, 1) := by decide +kernel
theorem dX12_cTwo_0 : decode cX12_cTwo 0 = .ok (.aload_n 0, 1) := by decide +kernel
theorem dX12_cTwo_1 : decode cX12_cTwo 1 = .ok (.getfield 215, 3) := by decide +kernel
theorem dX12_cTwo_4 : decode cX12_cTwo 4 = .ok (.iload_n 1, 1) := by decide +kernel
theorem dX12_cTwo_5 : decode cX12_cTwo 5 = .ok (.baload, 1) := by decide +kernel
theorem dX12_cTwo_6 : decode cX12_cTwo 6 = .ok (.sipush 255, 3) := by decide +kernel
theorem dX12_cTwo_9 : decode cX12_cTwo 9 = .ok (.iand, 1) := by decide +kernel
theorem dX12_cTwo_10 : decode cX12_cTwo 10 = .ok (.bipush 8, 2) := by decide +kernel
theorem dX12_cTwo_12 : decode cX12_cTwo 12 = .ok (.ishl, 1) := by decide +kernel
theorem dX12_cTwo_13 : decode cX12_cTwo 13 = .ok (.aload_n 0, 1) := by decide +kernel
theorem dX12_cTwo_14 : decode cX12_cTwo 14 = .ok (.getfield 215, 3) := by decide +kernel
theorem dX12_cTwo_17 : decode cX12_cTwo 17 = .ok (.iload_n 1, 1) := by decide +kernel
theorem dX12_cTwo_18 : decode cX12_cTwo 18 = .ok (.iconst 1, 1) := by decide +kernel
theorem dX12_cTwo_19 : decode cX12_cTwo 19 = .ok (.iadd, 1) := by decide +kernel
theorem dX12_cTwo_20 : decode cX12_cTwo 20 = .ok (.baload, 1) := by decide +kernel
theorem dX12_cTwo_21 : decode cX12_cTwo 21 = .ok (.sipush 255, 3) := by decide +kernel
theorem dX12_cTwo_24 : decode cX12_cTwo 24 = .ok (.iand, 1) := by decide +kernel
theorem dX12_cTwo_25 : decode cX12_cTwo 25 = .ok (.ior, 1) := by decide +kernel
theorem dX12_cTwo_26 : decode cX12_cTwo 26 = .ok (.ireturn, 1) := by decide +kernel
theorem dX12_frameOf_0 : decode cX12_frameOf 0 = .ok (.aload_n 0, 1) := by decide +kernel
theorem dX12_frameOf_1 : decode cX12_frameOf 1 = .ok (.getfield 215, 3) := by decide +kernel
theorem dX12_frameOf_4 : decode cX12_frameOf 4 = .ok (.iload_n 2, 1) := by decide +kernel
theorem dX12_frameOf_5 : decode cX12_frameOf 5 = .ok (.bipush 9, 2) := by decide +kernel
theorem dX12_frameOf_7 : decode cX12_frameOf 7 = .ok (.iadd, 1) := by decide +kernel
theorem dX12_frameOf_8 : decode cX12_frameOf 8 = .ok (.baload, 1) := by decide +kernel
theorem dX12_frameOf_9 : decode cX12_frameOf 9 = .ok (.sipush 255, 3) := by decide +kernel
theorem dX12_frameOf_12 : decode cX12_frameOf 12 = .ok (.iand, 1) := by decide +kernel
theorem dX12_frameOf_13 : decode cX12_frameOf 13 = .ok (.istore 4, 2) := by decide +kernel
theorem dX12_frameOf_15 : decode cX12_frameOf 15 = .ok (.aload_n 0, 1) := by decide +kernel
theorem dX12_frameOf_16 : decode cX12_frameOf 16 = .ok (.iload_n 2, 1) := by decide +kernel
theorem dX12_frameOf_17 : decode cX12_frameOf 17 = .ok (.bipush 6, 2) := by decide +kernel
theorem dX12_frameOf_19 : decode cX12_frameOf 19 = .ok (.iadd, 1) := by decide +kernel
theorem dX12_frameOf_20 : decode cX12_frameOf 20 = .ok (.invokevirtual 566, 3) := by decide +kernel
theorem dX12_frameOf_23 : decode cX12_frameOf 23 = .ok (.ldc_w 580, 3) := by decide +kernel
theorem dX12_frameOf_26 : decode cX12_frameOf 26 = .ok (.if_icmp .ne 61, 3) := by decide +kernel
theorem dX12_frameOf_29 : decode cX12_frameOf 29 = .ok (.aload_n 0, 1) := by decide +kernel
theorem dX12_frameOf_30 : decode cX12_frameOf 30 = .ok (.getfield 215, 3) := by decide +kernel
theorem dX12_frameOf_33 : decode cX12_frameOf 33 = .ok (.iload_n 2, 1) := by decide +kernel
theorem dX12_frameOf_34 : decode cX12_frameOf 34 = .ok (.bipush 8, 2) := by decide +kernel
theorem dX12_frameOf_36 : decode cX12_frameOf 36 = .ok (.iadd, 1) := by decide +kernel
theorem dX12_frameOf_37 : decode cX12_frameOf 37 = .ok (.baload, 1) := by decide +kernel
theorem dX12_frameOf_38 : decode cX12_frameOf 38 = .ok (.iconst 5, 1) := by decide +kernel
theorem dX12_frameOf_39 : decode cX12_frameOf 39 = .ok (.if_icmp .ne 48, 3) := by decide +kernel
theorem dX12_frameOf_42 : decode cX12_frameOf 42 = .ok (.iload 4, 2) := by decide +kernel
theorem dX12_frameOf_44 : decode cX12_frameOf 44 = .ok (.sipush 241, 3) := by decide +kernel
theorem dX12_frameOf_47 : decode cX12_frameOf 47 = .ok (.iand, 1) := by decide +kernel
theorem dX12_frameOf_48 : decode cX12_frameOf 48 = .ok (.bipush 33, 2) := by decide +kernel
theorem dX12_frameOf_50 : decode cX12_frameOf 50 = .ok (.if_icmp .ne 37, 3) := by decide +kernel
theorem dX12_frameOf_53 : decode cX12_frameOf 53 = .ok (.aload_n 0, 1) := by decide +kernel
theorem dX12_frameOf_54 : decode cX12_frameOf 54 = .ok (.getfield 215, 3) := by decide +kernel
theorem dX12_frameOf_57 : decode cX12_frameOf 57 = .ok (.iload_n 2, 1) := by decide +kernel
theorem dX12_frameOf_58 : decode cX12_frameOf 58 = .ok (.bipush 11, 2) := by decide +kernel
theorem dX12_frameOf_60 : decode cX12_frameOf 60 = .ok (.iadd, 1) := by decide +kernel
theorem dX12_frameOf_61 : decode cX12_frameOf 61 = .ok (.baload, 1) := by decide +kernel
theorem dX12_frameOf_62 : decode cX12_frameOf 62 = .ok (.iconst 1, 1) := by decide +kernel
theorem dX12_frameOf_63 : decode cX12_frameOf 63 = .ok (.iand, 1) := by decide +kernel
theorem dX12_frameOf_64 : decode cX12_frameOf 64 = .ok (.iconst 1, 1) := by decide +kernel
theorem dX12_frameOf_65 : decode cX12_frameOf 65 = .ok (.if_icmp .ne 22, 3) := by decide +kernel
theorem dX12_frameOf_68 : decode cX12_frameOf 68 = .ok (.aload_n 0, 1) := by decide +kernel
theorem dX12_frameOf_69 : decode cX12_frameOf 69 = .ok (.getfield 215, 3) := by decide +kernel
theorem dX12_frameOf_72 : decode cX12_frameOf 72 = .ok (.iload_n 2, 1) := by decide +kernel
theorem dX12_frameOf_73 : decode cX12_frameOf 73 = .ok (.bipush 13, 2) := by decide +kernel
theorem dX12_frameOf_75 : decode cX12_frameOf 75 = .ok (.iadd, 1) := by decide +kernel
theorem dX12_frameOf_76 : decode cX12_frameOf 76 = .ok (.baload, 1) := by decide +kernel
theorem dX12_frameOf_77 : decode cX12_frameOf 77 = .ok (.iconst 1, 1) := by decide +kernel
theorem dX12_frameOf_78 : decode cX12_frameOf 78 = .ok (.iand, 1) := by decide +kernel
theorem dX12_frameOf_79 : decode cX12_frameOf 79 = .ok (.iconst 1, 1) := by decide +kernel
theorem dX12_frameOf_80 : decode cX12_frameOf 80 = .ok (.if_icmp .ne 7, 3) := by decide +kernel
theorem dX12_frameOf_83 : decode cX12_frameOf 83 = .ok (.iconst 1, 1) := by decide +kernel
theorem dX12_frameOf_84 : decode cX12_frameOf 84 = .ok (.goto 4, 3) := by decide +kernel
theorem dX12_frameOf_87 : decode cX12_frameOf 87 = .ok (.iconst 0, 1) := by decide +kernel
theorem dX12_frameOf_88 : decode cX12_frameOf 88 = .ok (.istore 5, 2) := by decide +kernel
theorem dX12_frameOf_90 : decode cX12_frameOf 90 = .ok (.iload 4, 2) := by decide +kernel
theorem dX12_frameOf_92 : decode cX12_frameOf 92 = .ok (.iconst 1, 1) := by decide +kernel
theorem dX12_frameOf_93 : decode cX12_frameOf 93 = .ok (.ishr, 1) := by decide +kernel
theorem dX12_frameOf_94 : decode cX12_frameOf 94 = .ok (.bipush 7, 2) := by decide +kernel
theorem dX12_frameOf_96 : decode cX12_frameOf 96 = .ok (.iand, 1) := by decide +kernel
theorem dX12_frameOf_97 : decode cX12_frameOf 97 = .ok (.i2l, 1) := by decide +kernel
theorem dX12_frameOf_98 : decode cX12_frameOf 98 = .ok (.bipush 30, 2) := by decide +kernel
theorem dX12_frameOf_100 : decode cX12_frameOf 100 = .ok (.lshl, 1) := by decide +kernel
theorem dX12_frameOf_101 : decode cX12_frameOf 101 = .ok (.aload_n 0, 1) := by decide +kernel
theorem dX12_frameOf_102 : decode cX12_frameOf 102 = .ok (.iload_n 2, 1) := by decide +kernel
theorem dX12_frameOf_103 : decode cX12_frameOf 103 = .ok (.bipush 10, 2) := by decide +kernel
theorem dX12_frameOf_105 : decode cX12_frameOf 105 = .ok (.iadd, 1) := by decide +kernel
theorem dX12_frameOf_106 : decode cX12_frameOf 106 = .ok (.invokevirtual 566, 3) := by decide +kernel
theorem dX12_frameOf_109 : decode cX12_frameOf 109 = .ok (.iconst 1, 1) := by decide +kernel
theorem dX12_frameOf_110 : decode cX12_frameOf 110 = .ok (.ishr, 1) := by decide +kernel
theorem dX12_frameOf_111 : decode cX12_frameOf 111 = .ok (.i2l, 1) := by decide +kernel
theorem dX12_frameOf_112 : decode cX12_frameOf 112 = .ok (.bipush 15, 2) := by decide +kernel
theorem dX12_frameOf_114 : decode cX12_frameOf 114 = .ok (.lshl, 1) := by decide +kernel
theorem dX12_frameOf_115 : decode cX12_frameOf 115 = .ok (.lor, 1) := by decide +kernel
theorem dX12_frameOf_116 : decode cX12_frameOf 116 = .ok (.aload_n 0, 1) := by decide +kernel
theorem dX12_frameOf_117 : decode cX12_frameOf 117 = .ok (.iload_n 2, 1) := by decide +kernel
theorem dX12_frameOf_118 : decode cX12_frameOf 118 = .ok (.bipush 12, 2) := by decide +kernel
theorem dX12_frameOf_120 : decode cX12_frameOf 120 = .ok (.iadd, 1) := by decide +kernel
theorem dX12_frameOf_121 : decode cX12_frameOf 121 = .ok (.invokevirtual 566, 3) := by decide +kernel
theorem dX12_frameOf_124 : decode cX12_frameOf 124 = .ok (.iconst 1, 1) := by decide +kernel
theorem dX12_frameOf_125 : decode cX12_frameOf 125 = .ok (.ishr, 1) := by decide +kernel
theorem dX12_frameOf_126 : decode cX12_frameOf 126 = .ok (.i2l, 1) := by decide +kernel
theorem dX12_frameOf_127 : decode cX12_frameOf 127 = .ok (.lor, 1) := by decide +kernel
theorem dX12_frameOf_128 : decode cX12_frameOf 128 = .ok (.lstore 6, 2) := by decide +kernel
theorem dX12_frameOf_130 : decode cX12_frameOf 130 = .ok (.lload 6, 2) := by decide +kernel
theorem dX12_frameOf_132 : decode cX12_frameOf 132 = .ok (.aload_n 0, 1) := by decide +kernel
theorem dX12_frameOf_133 : decode cX12_frameOf 133 = .ok (.getfield 282, 3) := by decide +kernel
theorem dX12_frameOf_136 : decode cX12_frameOf 136 = .ok (.lsub, 1) := by decide +kernel
theorem dX12_frameOf_137 : decode cX12_frameOf 137 = .ok (.ldc2_w 387, 3) := by decide +kernel
theorem dX12_frameOf_140 : decode cX12_frameOf 140 = .ok (.land, 1) := by decide +kernel
theorem dX12_frameOf_141 : decode cX12_frameOf 141 = .ok (.lstore 8, 2) := by decide +kernel
theorem dX12_frameOf_143 : decode cX12_frameOf 143 = .ok (.lload 8, 2) := by decide +kernel
theorem dX12_frameOf_145 : decode cX12_frameOf 145 = .ok (.ldc2_w 385, 3) := by decide +kernel
theorem dX12_frameOf_148 : decode cX12_frameOf 148 = .ok (.ldiv, 1) := by decide +kernel
theorem dX12_frameOf_149 : decode cX12_frameOf 149 = .ok (.ldc2_w 481, 3) := by decide +kernel
theorem dX12_frameOf_152 : decode cX12_frameOf 152 = .ok (.lsub, 1) := by decide +kernel
theorem dX12_frameOf_153 : decode cX12_frameOf 153 = .ok (.lstore 10, 2) := by decide +kernel
theorem dX12_frameOf_155 : decode cX12_frameOf 155 = .ok (.iload 5, 2) := by decide +kernel
theorem dX12_frameOf_157 : decode cX12_frameOf 157 = .ok (.ifCond .eq 54, 3) := by decide +kernel
theorem dX12_frameOf_160 : decode cX12_frameOf 160 = .ok (.lload 8, 2) := by decide +kernel
theorem dX12_frameOf_162 : decode cX12_frameOf 162 = .ok (.ldc2_w 385, 3) := by decide +kernel
theorem dX12_frameOf_165 : decode cX12_frameOf 165 = .ok (.lrem, 1) := by decide +kernel
theorem dX12_frameOf_166 : decode cX12_frameOf 166 = .ok (.lconst 0, 1) := by decide +kernel
theorem dX12_frameOf_167 : decode cX12_frameOf 167 = .ok (.lcmp, 1) := by decide +kernel
theorem dX12_frameOf_168 : decode cX12_frameOf 168 = .ok (.ifCond .ne 43, 3) := by decide +kernel
theorem dX12_frameOf_171 : decode cX12_frameOf 171 = .ok (.lload 10, 2) := by decide +kernel
theorem dX12_frameOf_173 : decode cX12_frameOf 173 = .ok (.lconst 0, 1) := by decide +kernel
theorem dX12_frameOf_174 : decode cX12_frameOf 174 = .ok (.ldc2_w 317, 3) := by decide +kernel
theorem dX12_frameOf_177 : decode cX12_frameOf 177 = .ok (.invokestatic 287, 3) := by decide +kernel
theorem dX12_frameOf_180 : decode cX12_frameOf 180 = .ok (.ifCond .eq 31, 3) := by decide +kernel
theorem dX12_frameOf_183 : decode cX12_frameOf 183 = .ok (.lload 10, 2) := by decide +kernel
theorem dX12_frameOf_185 : decode cX12_frameOf 185 = .ok (.aload_n 0, 1) := by decide +kernel
theorem dX12_frameOf_186 : decode cX12_frameOf 186 = .ok (.getfield 532, 3) := by decide +kernel
theorem dX12_frameOf_189 : decode cX12_frameOf 189 = .ok (.i2l, 1) := by decide +kernel
theorem dX12_frameOf_190 : decode cX12_frameOf 190 = .ok (.lcmp, 1) := by decide +kernel
theorem dX12_frameOf_191 : decode cX12_frameOf 191 = .ok (.ifCond .lt 20, 3) := by decide +kernel
theorem dX12_frameOf_194 : decode cX12_frameOf 194 = .ok (.lload 10, 2) := by decide +kernel
theorem dX12_frameOf_196 : decode cX12_frameOf 196 = .ok (.aload_n 0, 1) := by decide +kernel
theorem dX12_frameOf_197 : decode cX12_frameOf 197 = .ok (.getfield 218, 3) := by decide +kernel
theorem dX12_frameOf_200 : decode cX12_frameOf 200 = .ok (.iload_n 1, 1) := by decide +kernel
theorem dX12_frameOf_201 : decode cX12_frameOf 201 = .ok (.iaload, 1) := by decide +kernel
theorem dX12_frameOf_202 : decode cX12_frameOf 202 = .ok (.i2l, 1) := by decide +kernel
theorem dX12_frameOf_203 : decode cX12_frameOf 203 = .ok (.lcmp, 1) := by decide +kernel
theorem dX12_frameOf_204 : decode cX12_frameOf 204 = .ok (.ifCond .le 7, 3) := by decide +kernel
theorem dX12_frameOf_207 : decode cX12_frameOf 207 = .ok (.iconst 1, 1) := by decide +kernel
theorem dX12_frameOf_208 : decode cX12_frameOf 208 = .ok (.goto 4, 3) := by decide +kernel
theorem dX12_frameOf_211 : decode cX12_frameOf 211 = .ok (.iconst 0, 1) := by decide +kernel
theorem dX12_frameOf_212 : decode cX12_frameOf 212 = .ok (.istore 5, 2) := by decide +kernel
theorem dX12_frameOf_214 : decode cX12_frameOf 214 = .ok (.iload_n 2, 1) := by decide +kernel
theorem dX12_frameOf_215 : decode cX12_frameOf 215 = .ok (.bipush 14, 2) := by decide +kernel
theorem dX12_frameOf_217 : decode cX12_frameOf 217 = .ok (.iadd, 1) := by decide +kernel
theorem dX12_frameOf_218 : decode cX12_frameOf 218 = .ok (.istore 12, 2) := by decide +kernel
theorem dX12_frameOf_220 : decode cX12_frameOf 220 = .ok (.iload 5, 2) := by decide +kernel
theorem dX12_frameOf_222 : decode cX12_frameOf 222 = .ok (.ifCond .eq 41, 3) := by decide +kernel
theorem dX12_frameOf_225 : decode cX12_frameOf 225 = .ok (.aload_n 0, 1) := by decide +kernel
theorem dX12_frameOf_226 : decode cX12_frameOf 226 = .ok (.iload 12, 2) := by decide +kernel
theorem dX12_frameOf_228 : decode cX12_frameOf 228 = .ok (.invokevirtual 566, 3) := by decide +kernel
theorem dX12_frameOf_231 : decode cX12_frameOf 231 = .ok (.bipush 16, 2) := by decide +kernel
theorem dX12_frameOf_233 : decode cX12_frameOf 233 = .ok (.ishl, 1) := by decide +kernel
theorem dX12_frameOf_234 : decode cX12_frameOf 234 = .ok (.aload_n 0, 1) := by decide +kernel
theorem dX12_frameOf_235 : decode cX12_frameOf 235 = .ok (.iload 12, 2) := by decide +kernel
theorem dX12_frameOf_237 : decode cX12_frameOf 237 = .ok (.iconst 2, 1) := by decide +kernel
theorem dX12_frameOf_238 : decode cX12_frameOf 238 = .ok (.iadd, 1) := by decide +kernel
theorem dX12_frameOf_239 : decode cX12_frameOf 239 = .ok (.invokevirtual 566, 3) := by decide +kernel
theorem dX12_frameOf_242 : decode cX12_frameOf 242 = .ok (.ior, 1) := by decide +kernel
theorem dX12_frameOf_243 : decode cX12_frameOf 243 = .ok (.aload_n 0, 1) := by decide +kernel
theorem dX12_frameOf_244 : decode cX12_frameOf 244 = .ok (.aload_n 0, 1) := by decide +kernel
theorem dX12_frameOf_245 : decode cX12_frameOf 245 = .ok (.getfield 215, 3) := by decide +kernel
theorem dX12_frameOf_248 : decode cX12_frameOf 248 = .ok (.iload 12, 2) := by decide +kernel
theorem dX12_frameOf_250 : decode cX12_frameOf 250 = .ok (.iconst 4, 1) := by decide +kernel
theorem dX12_frameOf_251 : decode cX12_frameOf 251 = .ok (.iadd, 1) := by decide +kernel
theorem dX12_frameOf_252 : decode cX12_frameOf 252 = .ok (.iload_n 3, 1) := by decide +kernel
theorem dX12_frameOf_253 : decode cX12_frameOf 253 = .ok (.invokevirtual 395, 3) := by decide +kernel
theorem dX12_frameOf_256 : decode cX12_frameOf 256 = .ok (.if_icmp .ne 7, 3) := by decide +kernel
theorem dX12_frameOf_259 : decode cX12_frameOf 259 = .ok (.iconst 1, 1) := by decide +kernel
theorem dX12_frameOf_260 : decode cX12_frameOf 260 = .ok (.goto 4, 3) := by decide +kernel
theorem dX12_frameOf_263 : decode cX12_frameOf 263 = .ok (.iconst 0, 1) := by decide +kernel
theorem dX12_frameOf_264 : decode cX12_frameOf 264 = .ok (.istore 5, 2) := by decide +kernel
theorem dX12_frameOf_266 : decode cX12_frameOf 266 = .ok (.iload 5, 2) := by decide +kernel
theorem dX12_frameOf_268 : decode cX12_frameOf 268 = .ok (.ifCond .eq 59, 3) := by decide +kernel
theorem dX12_frameOf_271 : decode cX12_frameOf 271 = .ok (.aload_n 0, 1) := by decide +kernel
theorem dX12_frameOf_272 : decode cX12_frameOf 272 = .ok (.iload 12, 2) := by decide +kernel
theorem dX12_frameOf_274 : decode cX12_frameOf 274 = .ok (.iconst 4, 1) := by decide +kernel
theorem dX12_frameOf_275 : decode cX12_frameOf 275 = .ok (.iadd, 1) := by decide +kernel
theorem dX12_frameOf_276 : decode cX12_frameOf 276 = .ok (.invokevirtual 566, 3) := by decide +kernel
theorem dX12_frameOf_279 : decode cX12_frameOf 279 = .ok (.i2l, 1) := by decide +kernel
theorem dX12_frameOf_280 : decode cX12_frameOf 280 = .ok (.lload 10, 2) := by decide +kernel
theorem dX12_frameOf_282 : decode cX12_frameOf 282 = .ok (.lcmp, 1) := by decide +kernel
theorem dX12_frameOf_283 : decode cX12_frameOf 283 = .ok (.ifCond .ne 44, 3) := by decide +kernel
theorem dX12_frameOf_286 : decode cX12_frameOf 286 = .ok (.aload_n 0, 1) := by decide +kernel
theorem dX12_frameOf_287 : decode cX12_frameOf 287 = .ok (.getfield 215, 3) := by decide +kernel
theorem dX12_frameOf_290 : decode cX12_frameOf 290 = .ok (.iload 12, 2) := by decide +kernel
theorem dX12_frameOf_292 : decode cX12_frameOf 292 = .ok (.bipush 6, 2) := by decide +kernel
theorem dX12_frameOf_294 : decode cX12_frameOf 294 = .ok (.iadd, 1) := by decide +kernel
theorem dX12_frameOf_295 : decode cX12_frameOf 295 = .ok (.baload, 1) := by decide +kernel
theorem dX12_frameOf_296 : decode cX12_frameOf 296 = .ok (.sipush 255, 3) := by decide +kernel
theorem dX12_frameOf_299 : decode cX12_frameOf 299 = .ok (.iand, 1) := by decide +kernel
theorem dX12_frameOf_300 : decode cX12_frameOf 300 = .ok (.bipush 16, 2) := by decide +kernel
theorem dX12_frameOf_302 : decode cX12_frameOf 302 = .ok (.if_icmp .gt 25, 3) := by decide +kernel
theorem dX12_frameOf_305 : decode cX12_frameOf 305 = .ok (.aload_n 0, 1) := by decide +kernel
theorem dX12_frameOf_306 : decode cX12_frameOf 306 = .ok (.getfield 215, 3) := by decide +kernel
theorem dX12_frameOf_309 : decode cX12_frameOf 309 = .ok (.iload 12, 2) := by decide +kernel
theorem dX12_frameOf_311 : decode cX12_frameOf 311 = .ok (.bipush 9, 2) := by decide +kernel
theorem dX12_frameOf_313 : decode cX12_frameOf 313 = .ok (.iadd, 1) := by decide +kernel
theorem dX12_frameOf_314 : decode cX12_frameOf 314 = .ok (.baload, 1) := by decide +kernel
theorem dX12_frameOf_315 : decode cX12_frameOf 315 = .ok (.sipush 255, 3) := by decide +kernel
theorem dX12_frameOf_318 : decode cX12_frameOf 318 = .ok (.iand, 1) := by decide +kernel
theorem dX12_frameOf_319 : decode cX12_frameOf 319 = .ok (.iconst 2, 1) := by decide +kernel
theorem dX12_frameOf_320 : decode cX12_frameOf 320 = .ok (.if_icmp .gt 7, 3) := by decide +kernel
theorem dX12_frameOf_323 : decode cX12_frameOf 323 = .ok (.iconst 1, 1) := by decide +kernel
theorem dX12_frameOf_324 : decode cX12_frameOf 324 = .ok (.goto 4, 3) := by decide +kernel
theorem dX12_frameOf_327 : decode cX12_frameOf 327 = .ok (.iconst 0, 1) := by decide +kernel
theorem dX12_frameOf_328 : decode cX12_frameOf 328 = .ok (.istore 5, 2) := by decide +kernel
theorem dX12_frameOf_330 : decode cX12_frameOf 330 = .ok (.iload 5, 2) := by decide +kernel
theorem dX12_frameOf_332 : decode cX12_frameOf 332 = .ok (.ifCond .eq 9, 3) := by decide +kernel
theorem dX12_frameOf_335 : decode cX12_frameOf 335 = .ok (.lload 10, 2) := by decide +kernel
theorem dX12_frameOf_337 : decode cX12_frameOf 337 = .ok (.l2i, 1) := by decide +kernel
theorem dX12_frameOf_338 : decode cX12_frameOf 338 = .ok (.goto 4, 3) := by decide +kernel
theorem dX12_frameOf_341 : decode cX12_frameOf 341 = .ok (.iconst (-1), 1) := by decide +kernel
theorem dX12_frameOf_342 : decode cX12_frameOf 342 = .ok (.ireturn, 1) := by decide +kernel
theorem dX12_decodes_0 : decode cX12_decodes 0 = .ok (.aload_n 0, 1) := by decide +kernel
theorem dX12_decodes_1 : decode cX12_decodes 1 = .ok (.getfield 218, 3) := by decide +kernel
theorem dX12_decodes_4 : decode cX12_decodes 4 = .ok (.iload_n 1, 1) := by decide +kernel
theorem dX12_decodes_5 : decode cX12_decodes 5 = .ok (.iload_n 3, 1) := by decide +kernel
theorem dX12_decodes_6 : decode cX12_decodes 6 = .ok (.iastore, 1) := by decide +kernel
theorem dX12_decodes_7 : decode cX12_decodes 7 = .ok (.aload_n 0, 1) := by decide +kernel
theorem dX12_decodes_8 : decode cX12_decodes 8 = .ok (.getfield 215, 3) := by decide +kernel
theorem dX12_decodes_11 : decode cX12_decodes 11 = .ok (.iload_n 2, 1) := by decide +kernel
theorem dX12_decodes_12 : decode cX12_decodes 12 = .ok (.bipush 9, 2) := by decide +kernel
theorem dX12_decodes_14 : decode cX12_decodes 14 = .ok (.iadd, 1) := by decide +kernel
theorem dX12_decodes_15 : decode cX12_decodes 15 = .ok (.baload, 1) := by decide +kernel
theorem dX12_decodes_16 : decode cX12_decodes 16 = .ok (.istore 4, 2) := by decide +kernel
theorem dX12_decodes_18 : decode cX12_decodes 18 = .ok (.iload 4, 2) := by decide +kernel
theorem dX12_decodes_20 : decode cX12_decodes 20 = .ok (.ifCond .ne 16, 3) := by decide +kernel
theorem dX12_decodes_23 : decode cX12_decodes 23 = .ok (.aload_n 0, 1) := by decide +kernel
theorem dX12_decodes_24 : decode cX12_decodes 24 = .ok (.getfield 221, 3) := by decide +kernel
theorem dX12_decodes_27 : decode cX12_decodes 27 = .ok (.iload_n 1, 1) := by decide +kernel
theorem dX12_decodes_28 : decode cX12_decodes 28 = .ok (.iaload, 1) := by decide +kernel
theorem dX12_decodes_29 : decode cX12_decodes 29 = .ok (.iload_n 3, 1) := by decide +kernel
theorem dX12_decodes_30 : decode cX12_decodes 30 = .ok (.iconst 1, 1) := by decide +kernel
theorem dX12_decodes_31 : decode cX12_decodes 31 = .ok (.isub, 1) := by decide +kernel
theorem dX12_decodes_32 : decode cX12_decodes 32 = .ok (.if_icmp .eq 4, 3) := by decide +kernel
theorem dX12_decodes_35 : decode cX12_decodes 35 = .ok (.return_, 1) := by decide +kernel
theorem dX12_decodes_36 : decode cX12_decodes 36 = .ok (.aload_n 0, 1) := by decide +kernel
theorem dX12_decodes_37 : decode cX12_decodes 37 = .ok (.getfield 221, 3) := by decide +kernel
theorem dX12_decodes_40 : decode cX12_decodes 40 = .ok (.iload_n 1, 1) := by decide +kernel
theorem dX12_decodes_41 : decode cX12_decodes 41 = .ok (.iload_n 3, 1) := by decide +kernel
theorem dX12_decodes_42 : decode cX12_decodes 42 = .ok (.iastore, 1) := by decide +kernel
theorem dX12_decodes_43 : decode cX12_decodes 43 = .ok (.sipush 3000, 3) := by decide +kernel
theorem dX12_decodes_46 : decode cX12_decodes 46 = .ok (.iload_n 1, 1) := by decide +kernel
theorem dX12_decodes_47 : decode cX12_decodes 47 = .ok (.imul, 1) := by decide +kernel
theorem dX12_decodes_48 : decode cX12_decodes 48 = .ok (.iload_n 3, 1) := by decide +kernel
theorem dX12_decodes_49 : decode cX12_decodes 49 = .ok (.iadd, 1) := by decide +kernel
theorem dX12_decodes_50 : decode cX12_decodes 50 = .ok (.istore 5, 2) := by decide +kernel
theorem dX12_decodes_52 : decode cX12_decodes 52 = .ok (.aload_n 0, 1) := by decide +kernel
theorem dX12_decodes_53 : decode cX12_decodes 53 = .ok (.getfield 224, 3) := by decide +kernel
theorem dX12_decodes_56 : decode cX12_decodes 56 = .ok (.iload 5, 2) := by decide +kernel
theorem dX12_decodes_58 : decode cX12_decodes 58 = .ok (.iconst 1, 1) := by decide +kernel
theorem dX12_decodes_59 : decode cX12_decodes 59 = .ok (.bastore, 1) := by decide +kernel
theorem dX12_decodes_60 : decode cX12_decodes 60 = .ok (.aload_n 0, 1) := by decide +kernel
theorem dX12_decodes_61 : decode cX12_decodes 61 = .ok (.getfield 227, 3) := by decide +kernel
theorem dX12_decodes_64 : decode cX12_decodes 64 = .ok (.iload 5, 2) := by decide +kernel
theorem dX12_decodes_66 : decode cX12_decodes 66 = .ok (.aload_n 0, 1) := by decide +kernel
theorem dX12_decodes_67 : decode cX12_decodes 67 = .ok (.getfield 215, 3) := by decide +kernel
theorem dX12_decodes_70 : decode cX12_decodes 70 = .ok (.iload_n 2, 1) := by decide +kernel
theorem dX12_decodes_71 : decode cX12_decodes 71 = .ok (.bipush 6, 2) := by decide +kernel
theorem dX12_decodes_73 : decode cX12_decodes 73 = .ok (.iadd, 1) := by decide +kernel
theorem dX12_decodes_74 : decode cX12_decodes 74 = .ok (.baload, 1) := by decide +kernel
theorem dX12_decodes_75 : decode cX12_decodes 75 = .ok (.iconst 1, 1) := by decide +kernel
theorem dX12_decodes_76 : decode cX12_decodes 76 = .ok (.isub, 1) := by decide +kernel
theorem dX12_decodes_77 : decode cX12_decodes 77 = .ok (.iastore, 1) := by decide +kernel
theorem dX12_decodes_78 : decode cX12_decodes 78 = .ok (.aload_n 0, 1) := by decide +kernel
theorem dX12_decodes_79 : decode cX12_decodes 79 = .ok (.getfield 230, 3) := by decide +kernel
theorem dX12_decodes_82 : decode cX12_decodes 82 = .ok (.iload 5, 2) := by decide +kernel
theorem dX12_decodes_84 : decode cX12_decodes 84 = .ok (.aload_n 0, 1) := by decide +kernel
theorem dX12_decodes_85 : decode cX12_decodes 85 = .ok (.iload_n 2, 1) := by decide +kernel
theorem dX12_decodes_86 : decode cX12_decodes 86 = .ok (.bipush 7, 2) := by decide +kernel
theorem dX12_decodes_88 : decode cX12_decodes 88 = .ok (.iadd, 1) := by decide +kernel
theorem dX12_decodes_89 : decode cX12_decodes 89 = .ok (.invokevirtual 566, 3) := by decide +kernel
theorem dX12_decodes_92 : decode cX12_decodes 92 = .ok (.iastore, 1) := by decide +kernel
theorem dX12_decodes_93 : decode cX12_decodes 93 = .ok (.aload_n 0, 1) := by decide +kernel
theorem dX12_decodes_94 : decode cX12_decodes 94 = .ok (.getfield 233, 3) := by decide +kernel
theorem dX12_decodes_97 : decode cX12_decodes 97 = .ok (.iload 5, 2) := by decide +kernel
theorem dX12_decodes_99 : decode cX12_decodes 99 = .ok (.iload 4, 2) := by decide +kernel
theorem dX12_decodes_101 : decode cX12_decodes 101 = .ok (.iastore, 1) := by decide +kernel
theorem dX12_decodes_102 : decode cX12_decodes 102 = .ok (.aload_n 0, 1) := by decide +kernel
theorem dX12_decodes_103 : decode cX12_decodes 103 = .ok (.getfield 236, 3) := by decide +kernel
theorem dX12_decodes_106 : decode cX12_decodes 106 = .ok (.iload 5, 2) := by decide +kernel
theorem dX12_decodes_108 : decode cX12_decodes 108 = .ok (.aload_n 0, 1) := by decide +kernel
theorem dX12_decodes_109 : decode cX12_decodes 109 = .ok (.iload_n 2, 1) := by decide +kernel
theorem dX12_decodes_110 : decode cX12_decodes 110 = .ok (.bipush 10, 2) := by decide +kernel
theorem dX12_decodes_112 : decode cX12_decodes 112 = .ok (.iadd, 1) := by decide +kernel
theorem dX12_decodes_113 : decode cX12_decodes 113 = .ok (.invokevirtual 566, 3) := by decide +kernel
theorem dX12_decodes_116 : decode cX12_decodes 116 = .ok (.iastore, 1) := by decide +kernel
theorem dX12_decodes_117 : decode cX12_decodes 117 = .ok (.return_, 1) := by decide +kernel
theorem dX12_over_0 : decode cX12_over 0 = .ok (.iconst 0, 1) := by decide +kernel
theorem dX12_over_1 : decode cX12_over 1 = .ok (.istore_n 2, 1) := by decide +kernel
theorem dX12_over_2 : decode cX12_over 2 = .ok (.iload_n 2, 1) := by decide +kernel
theorem dX12_over_3 : decode cX12_over 3 = .ok (.iconst 3, 1) := by decide +kernel
theorem dX12_over_4 : decode cX12_over 4 = .ok (.if_icmp .ge 149, 3) := by decide +kernel
theorem dX12_over_7 : decode cX12_over 7 = .ok (.sipush 3000, 3) := by decide +kernel
theorem dX12_over_10 : decode cX12_over 10 = .ok (.iload_n 2, 1) := by decide +kernel
theorem dX12_over_11 : decode cX12_over 11 = .ok (.imul, 1) := by decide +kernel
theorem dX12_over_12 : decode cX12_over 12 = .ok (.iload_n 1, 1) := by decide +kernel
theorem dX12_over_13 : decode cX12_over 13 = .ok (.iadd, 1) := by decide +kernel
theorem dX12_over_14 : decode cX12_over 14 = .ok (.istore_n 3, 1) := by decide +kernel
theorem dX12_over_15 : decode cX12_over 15 = .ok (.aload_n 0, 1) := by decide +kernel
theorem dX12_over_16 : decode cX12_over 16 = .ok (.getfield 242, 3) := by decide +kernel
theorem dX12_over_19 : decode cX12_over 19 = .ok (.iload_n 3, 1) := by decide +kernel
theorem dX12_over_20 : decode cX12_over 20 = .ok (.aload_n 0, 1) := by decide +kernel
theorem dX12_over_21 : decode cX12_over 21 = .ok (.getfield 224, 3) := by decide +kernel
theorem dX12_over_24 : decode cX12_over 24 = .ok (.iload_n 3, 1) := by decide +kernel
theorem dX12_over_25 : decode cX12_over 25 = .ok (.baload, 1) := by decide +kernel
theorem dX12_over_26 : decode cX12_over 26 = .ok (.ifCond .eq 12, 3) := by decide +kernel
theorem dX12_over_29 : decode cX12_over 29 = .ok (.aload_n 0, 1) := by decide +kernel
theorem dX12_over_30 : decode cX12_over 30 = .ok (.getfield 227, 3) := by decide +kernel
theorem dX12_over_33 : decode cX12_over 33 = .ok (.iload_n 3, 1) := by decide +kernel
theorem dX12_over_34 : decode cX12_over 34 = .ok (.iaload, 1) := by decide +kernel
theorem dX12_over_35 : decode cX12_over 35 = .ok (.goto 19, 3) := by decide +kernel
theorem dX12_over_38 : decode cX12_over 38 = .ok (.iload_n 1, 1) := by decide +kernel
theorem dX12_over_39 : decode cX12_over 39 = .ok (.ifCond .ne 7, 3) := by decide +kernel
theorem dX12_over_42 : decode cX12_over 42 = .ok (.iconst (-1), 1) := by decide +kernel
theorem dX12_over_43 : decode cX12_over 43 = .ok (.goto 11, 3) := by decide +kernel
theorem dX12_over_46 : decode cX12_over 46 = .ok (.aload_n 0, 1) := by decide +kernel
theorem dX12_over_47 : decode cX12_over 47 = .ok (.getfield 242, 3) := by decide +kernel
theorem dX12_over_50 : decode cX12_over 50 = .ok (.iload_n 3, 1) := by decide +kernel
theorem dX12_over_51 : decode cX12_over 51 = .ok (.iconst 1, 1) := by decide +kernel
theorem dX12_over_52 : decode cX12_over 52 = .ok (.isub, 1) := by decide +kernel
theorem dX12_over_53 : decode cX12_over 53 = .ok (.iaload, 1) := by decide +kernel
theorem dX12_over_54 : decode cX12_over 54 = .ok (.iastore, 1) := by decide +kernel
theorem dX12_over_55 : decode cX12_over 55 = .ok (.aload_n 0, 1) := by decide +kernel
theorem dX12_over_56 : decode cX12_over 56 = .ok (.getfield 245, 3) := by decide +kernel
theorem dX12_over_59 : decode cX12_over 59 = .ok (.iload_n 3, 1) := by decide +kernel
theorem dX12_over_60 : decode cX12_over 60 = .ok (.aload_n 0, 1) := by decide +kernel
theorem dX12_over_61 : decode cX12_over 61 = .ok (.getfield 242, 3) := by decide +kernel
theorem dX12_over_64 : decode cX12_over 64 = .ok (.iload_n 3, 1) := by decide +kernel
theorem dX12_over_65 : decode cX12_over 65 = .ok (.iaload, 1) := by decide +kernel
theorem dX12_over_66 : decode cX12_over 66 = .ok (.iconst (-1), 1) := by decide +kernel
theorem dX12_over_67 : decode cX12_over 67 = .ok (.if_icmp .ne 7, 3) := by decide +kernel
theorem dX12_over_70 : decode cX12_over 70 = .ok (.iconst (-1), 1) := by decide +kernel
theorem dX12_over_71 : decode cX12_over 71 = .ok (.goto 29, 3) := by decide +kernel
theorem dX12_over_74 : decode cX12_over 74 = .ok (.aload_n 0, 1) := by decide +kernel
theorem dX12_over_75 : decode cX12_over 75 = .ok (.getfield 224, 3) := by decide +kernel
theorem dX12_over_78 : decode cX12_over 78 = .ok (.iload_n 3, 1) := by decide +kernel
theorem dX12_over_79 : decode cX12_over 79 = .ok (.baload, 1) := by decide +kernel
theorem dX12_over_80 : decode cX12_over 80 = .ok (.ifCond .eq 12, 3) := by decide +kernel
theorem dX12_over_83 : decode cX12_over 83 = .ok (.aload_n 0, 1) := by decide +kernel
theorem dX12_over_84 : decode cX12_over 84 = .ok (.getfield 230, 3) := by decide +kernel
theorem dX12_over_87 : decode cX12_over 87 = .ok (.iload_n 3, 1) := by decide +kernel
theorem dX12_over_88 : decode cX12_over 88 = .ok (.iaload, 1) := by decide +kernel
theorem dX12_over_89 : decode cX12_over 89 = .ok (.goto 11, 3) := by decide +kernel
theorem dX12_over_92 : decode cX12_over 92 = .ok (.aload_n 0, 1) := by decide +kernel
theorem dX12_over_93 : decode cX12_over 93 = .ok (.getfield 245, 3) := by decide +kernel
theorem dX12_over_96 : decode cX12_over 96 = .ok (.iload_n 3, 1) := by decide +kernel
theorem dX12_over_97 : decode cX12_over 97 = .ok (.iconst 1, 1) := by decide +kernel
theorem dX12_over_98 : decode cX12_over 98 = .ok (.isub, 1) := by decide +kernel
theorem dX12_over_99 : decode cX12_over 99 = .ok (.iaload, 1) := by decide +kernel
theorem dX12_over_100 : decode cX12_over 100 = .ok (.iastore, 1) := by decide +kernel
theorem dX12_over_101 : decode cX12_over 101 = .ok (.aload_n 0, 1) := by decide +kernel
theorem dX12_over_102 : decode cX12_over 102 = .ok (.iload_n 2, 1) := by decide +kernel
theorem dX12_over_103 : decode cX12_over 103 = .ok (.iconst 0, 1) := by decide +kernel
theorem dX12_over_104 : decode cX12_over 104 = .ok (.aload_n 0, 1) := by decide +kernel
theorem dX12_over_105 : decode cX12_over 105 = .ok (.getfield 242, 3) := by decide +kernel
theorem dX12_over_108 : decode cX12_over 108 = .ok (.iload_n 3, 1) := by decide +kernel
theorem dX12_over_109 : decode cX12_over 109 = .ok (.iaload, 1) := by decide +kernel
theorem dX12_over_110 : decode cX12_over 110 = .ok (.iconst (-1), 1) := by decide +kernel
theorem dX12_over_111 : decode cX12_over 111 = .ok (.if_icmp .ne 7, 3) := by decide +kernel
theorem dX12_over_114 : decode cX12_over 114 = .ok (.iconst 1, 1) := by decide +kernel
theorem dX12_over_115 : decode cX12_over 115 = .ok (.goto 4, 3) := by decide +kernel
theorem dX12_over_118 : decode cX12_over 118 = .ok (.iconst 0, 1) := by decide +kernel
theorem dX12_over_119 : decode cX12_over 119 = .ok (.bipush 10, 2) := by decide +kernel
theorem dX12_over_121 : decode cX12_over 121 = .ok (.iload_n 1, 1) := by decide +kernel
theorem dX12_over_122 : decode cX12_over 122 = .ok (.invokevirtual 581, 3) := by decide +kernel
theorem dX12_over_125 : decode cX12_over 125 = .ok (.aload_n 0, 1) := by decide +kernel
theorem dX12_over_126 : decode cX12_over 126 = .ok (.iload_n 2, 1) := by decide +kernel
theorem dX12_over_127 : decode cX12_over 127 = .ok (.iconst 1, 1) := by decide +kernel
theorem dX12_over_128 : decode cX12_over 128 = .ok (.aload_n 0, 1) := by decide +kernel
theorem dX12_over_129 : decode cX12_over 129 = .ok (.getfield 224, 3) := by decide +kernel
theorem dX12_over_132 : decode cX12_over 132 = .ok (.iload_n 3, 1) := by decide +kernel
theorem dX12_over_133 : decode cX12_over 133 = .ok (.baload, 1) := by decide +kernel
theorem dX12_over_134 : decode cX12_over 134 = .ok (.ifCond .ne 7, 3) := by decide +kernel
theorem dX12_over_137 : decode cX12_over 137 = .ok (.iconst 1, 1) := by decide +kernel
theorem dX12_over_138 : decode cX12_over 138 = .ok (.goto 4, 3) := by decide +kernel
theorem dX12_over_141 : decode cX12_over 141 = .ok (.iconst 0, 1) := by decide +kernel
theorem dX12_over_142 : decode cX12_over 142 = .ok (.iconst 5, 1) := by decide +kernel
theorem dX12_over_143 : decode cX12_over 143 = .ok (.iload_n 1, 1) := by decide +kernel
theorem dX12_over_144 : decode cX12_over 144 = .ok (.invokevirtual 581, 3) := by decide +kernel
theorem dX12_over_147 : decode cX12_over 147 = .ok (.iinc 2 1, 3) := by decide +kernel
theorem dX12_over_150 : decode cX12_over 150 = .ok (.goto (-148), 3) := by decide +kernel
theorem dX12_over_153 : decode cX12_over 153 = .ok (.aload_n 0, 1) := by decide +kernel
theorem dX12_over_154 : decode cX12_over 154 = .ok (.iload_n 1, 1) := by decide +kernel
theorem dX12_over_155 : decode cX12_over 155 = .ok (.invokevirtual 585, 3) := by decide +kernel
theorem dX12_over_158 : decode cX12_over 158 = .ok (.return_, 1) := by decide +kernel
theorem dX12_alarm_0 : decode cX12_alarm 0 = .ok (.iconst 2, 1) := by decide +kernel
theorem dX12_alarm_1 : decode cX12_alarm 1 = .ok (.iload_n 1, 1) := by decide +kernel
theorem dX12_alarm_2 : decode cX12_alarm 2 = .ok (.imul, 1) := by decide +kernel
theorem dX12_alarm_3 : decode cX12_alarm 3 = .ok (.iload_n 2, 1) := by decide +kernel
theorem dX12_alarm_4 : decode cX12_alarm 4 = .ok (.iadd, 1) := by decide +kernel
theorem dX12_alarm_5 : decode cX12_alarm 5 = .ok (.istore 6, 2) := by decide +kernel
theorem dX12_alarm_7 : decode cX12_alarm 7 = .ok (.aload_n 0, 1) := by decide +kernel
theorem dX12_alarm_8 : decode cX12_alarm 8 = .ok (.getfield 263, 3) := by decide +kernel
theorem dX12_alarm_11 : decode cX12_alarm 11 = .ok (.iload 6, 2) := by decide +kernel
theorem dX12_alarm_13 : decode cX12_alarm 13 = .ok (.iload_n 3, 1) := by decide +kernel
theorem dX12_alarm_14 : decode cX12_alarm 14 = .ok (.ifCond .eq 15, 3) := by decide +kernel
theorem dX12_alarm_17 : decode cX12_alarm 17 = .ok (.aload_n 0, 1) := by decide +kernel
theorem dX12_alarm_18 : decode cX12_alarm 18 = .ok (.getfield 263, 3) := by decide +kernel
theorem dX12_alarm_21 : decode cX12_alarm 21 = .ok (.iload 6, 2) := by decide +kernel
theorem dX12_alarm_23 : decode cX12_alarm 23 = .ok (.iaload, 1) := by decide +kernel
theorem dX12_alarm_24 : decode cX12_alarm 24 = .ok (.iconst 1, 1) := by decide +kernel
theorem dX12_alarm_25 : decode cX12_alarm 25 = .ok (.iadd, 1) := by decide +kernel
theorem dX12_alarm_26 : decode cX12_alarm 26 = .ok (.goto 4, 3) := by decide +kernel
theorem dX12_alarm_29 : decode cX12_alarm 29 = .ok (.iconst 0, 1) := by decide +kernel
theorem dX12_alarm_30 : decode cX12_alarm 30 = .ok (.iastore, 1) := by decide +kernel
theorem dX12_alarm_31 : decode cX12_alarm 31 = .ok (.iload_n 3, 1) := by decide +kernel
theorem dX12_alarm_32 : decode cX12_alarm 32 = .ok (.ifCond .eq 91, 3) := by decide +kernel
theorem dX12_alarm_35 : decode cX12_alarm 35 = .ok (.aload_n 0, 1) := by decide +kernel
theorem dX12_alarm_36 : decode cX12_alarm 36 = .ok (.getfield 263, 3) := by decide +kernel
theorem dX12_alarm_39 : decode cX12_alarm 39 = .ok (.iload 6, 2) := by decide +kernel
theorem dX12_alarm_41 : decode cX12_alarm 41 = .ok (.iaload, 1) := by decide +kernel
theorem dX12_alarm_42 : decode cX12_alarm 42 = .ok (.iload 4, 2) := by decide +kernel
theorem dX12_alarm_44 : decode cX12_alarm 44 = .ok (.if_icmp .ne 79, 3) := by decide +kernel
theorem dX12_alarm_47 : decode cX12_alarm 47 = .ok (.aload_n 0, 1) := by decide +kernel
theorem dX12_alarm_48 : decode cX12_alarm 48 = .ok (.getfield 260, 3) := by decide +kernel
theorem dX12_alarm_51 : decode cX12_alarm 51 = .ok (.iload 6, 2) := by decide +kernel
theorem dX12_alarm_53 : decode cX12_alarm 53 = .ok (.aload_n 0, 1) := by decide +kernel
theorem dX12_alarm_54 : decode cX12_alarm 54 = .ok (.getfield 248, 3) := by decide +kernel
theorem dX12_alarm_57 : decode cX12_alarm 57 = .ok (.iload_n 1, 1) := by decide +kernel
theorem dX12_alarm_58 : decode cX12_alarm 58 = .ok (.dup2, 1) := by decide +kernel
theorem dX12_alarm_59 : decode cX12_alarm 59 = .ok (.iaload, 1) := by decide +kernel
theorem dX12_alarm_60 : decode cX12_alarm 60 = .ok (.dup_x2, 1) := by decide +kernel
theorem dX12_alarm_61 : decode cX12_alarm 61 = .ok (.iconst 1, 1) := by decide +kernel
theorem dX12_alarm_62 : decode cX12_alarm 62 = .ok (.iadd, 1) := by decide +kernel
theorem dX12_alarm_63 : decode cX12_alarm 63 = .ok (.iastore, 1) := by decide +kernel
theorem dX12_alarm_64 : decode cX12_alarm 64 = .ok (.iastore, 1) := by decide +kernel
theorem dX12_alarm_65 : decode cX12_alarm 65 = .ok (.aload_n 0, 1) := by decide +kernel
theorem dX12_alarm_66 : decode cX12_alarm 66 = .ok (.getfield 251, 3) := by decide +kernel
theorem dX12_alarm_69 : decode cX12_alarm 69 = .ok (.sipush 900, 3) := by decide +kernel
theorem dX12_alarm_72 : decode cX12_alarm 72 = .ok (.iload_n 1, 1) := by decide +kernel
theorem dX12_alarm_73 : decode cX12_alarm 73 = .ok (.imul, 1) := by decide +kernel
theorem dX12_alarm_74 : decode cX12_alarm 74 = .ok (.aload_n 0, 1) := by decide +kernel
theorem dX12_alarm_75 : decode cX12_alarm 75 = .ok (.getfield 260, 3) := by decide +kernel
theorem dX12_alarm_78 : decode cX12_alarm 78 = .ok (.iload 6, 2) := by decide +kernel
theorem dX12_alarm_80 : decode cX12_alarm 80 = .ok (.iaload, 1) := by decide +kernel
theorem dX12_alarm_81 : decode cX12_alarm 81 = .ok (.iadd, 1) := by decide +kernel
theorem dX12_alarm_82 : decode cX12_alarm 82 = .ok (.iload_n 2, 1) := by decide +kernel
theorem dX12_alarm_83 : decode cX12_alarm 83 = .ok (.iastore, 1) := by decide +kernel
theorem dX12_alarm_84 : decode cX12_alarm 84 = .ok (.aload_n 0, 1) := by decide +kernel
theorem dX12_alarm_85 : decode cX12_alarm 85 = .ok (.getfield 254, 3) := by decide +kernel
theorem dX12_alarm_88 : decode cX12_alarm 88 = .ok (.sipush 900, 3) := by decide +kernel
theorem dX12_alarm_91 : decode cX12_alarm 91 = .ok (.iload_n 1, 1) := by decide +kernel
theorem dX12_alarm_92 : decode cX12_alarm 92 = .ok (.imul, 1) := by decide +kernel
theorem dX12_alarm_93 : decode cX12_alarm 93 = .ok (.aload_n 0, 1) := by decide +kernel
theorem dX12_alarm_94 : decode cX12_alarm 94 = .ok (.getfield 260, 3) := by decide +kernel
theorem dX12_alarm_97 : decode cX12_alarm 97 = .ok (.iload 6, 2) := by decide +kernel
theorem dX12_alarm_99 : decode cX12_alarm 99 = .ok (.iaload, 1) := by decide +kernel
theorem dX12_alarm_100 : decode cX12_alarm 100 = .ok (.iadd, 1) := by decide +kernel
theorem dX12_alarm_101 : decode cX12_alarm 101 = .ok (.iload 5, 2) := by decide +kernel
theorem dX12_alarm_103 : decode cX12_alarm 103 = .ok (.iastore, 1) := by decide +kernel
theorem dX12_alarm_104 : decode cX12_alarm 104 = .ok (.aload_n 0, 1) := by decide +kernel
theorem dX12_alarm_105 : decode cX12_alarm 105 = .ok (.getfield 257, 3) := by decide +kernel
theorem dX12_alarm_108 : decode cX12_alarm 108 = .ok (.sipush 900, 3) := by decide +kernel
theorem dX12_alarm_111 : decode cX12_alarm 111 = .ok (.iload_n 1, 1) := by decide +kernel
theorem dX12_alarm_112 : decode cX12_alarm 112 = .ok (.imul, 1) := by decide +kernel
theorem dX12_alarm_113 : decode cX12_alarm 113 = .ok (.aload_n 0, 1) := by decide +kernel
theorem dX12_alarm_114 : decode cX12_alarm 114 = .ok (.getfield 260, 3) := by decide +kernel
theorem dX12_alarm_117 : decode cX12_alarm 117 = .ok (.iload 6, 2) := by decide +kernel
theorem dX12_alarm_119 : decode cX12_alarm 119 = .ok (.iaload, 1) := by decide +kernel
theorem dX12_alarm_120 : decode cX12_alarm 120 = .ok (.iadd, 1) := by decide +kernel
theorem dX12_alarm_121 : decode cX12_alarm 121 = .ok (.iconst (-1), 1) := by decide +kernel
theorem dX12_alarm_122 : decode cX12_alarm 122 = .ok (.iastore, 1) := by decide +kernel
theorem dX12_alarm_123 : decode cX12_alarm 123 = .ok (.iload_n 3, 1) := by decide +kernel
theorem dX12_alarm_124 : decode cX12_alarm 124 = .ok (.ifCond .ne 42, 3) := by decide +kernel
theorem dX12_alarm_127 : decode cX12_alarm 127 = .ok (.aload_n 0, 1) := by decide +kernel
theorem dX12_alarm_128 : decode cX12_alarm 128 = .ok (.getfield 260, 3) := by decide +kernel
theorem dX12_alarm_131 : decode cX12_alarm 131 = .ok (.iload 6, 2) := by decide +kernel
theorem dX12_alarm_133 : decode cX12_alarm 133 = .ok (.iaload, 1) := by decide +kernel
theorem dX12_alarm_134 : decode cX12_alarm 134 = .ok (.iconst (-1), 1) := by decide +kernel
theorem dX12_alarm_135 : decode cX12_alarm 135 = .ok (.if_icmp .eq 31, 3) := by decide +kernel
theorem dX12_alarm_138 : decode cX12_alarm 138 = .ok (.aload_n 0, 1) := by decide +kernel
theorem dX12_alarm_139 : decode cX12_alarm 139 = .ok (.getfield 257, 3) := by decide +kernel
theorem dX12_alarm_142 : decode cX12_alarm 142 = .ok (.sipush 900, 3) := by decide +kernel
theorem dX12_alarm_145 : decode cX12_alarm 145 = .ok (.iload_n 1, 1) := by decide +kernel
theorem dX12_alarm_146 : decode cX12_alarm 146 = .ok (.imul, 1) := by decide +kernel
theorem dX12_alarm_147 : decode cX12_alarm 147 = .ok (.aload_n 0, 1) := by decide +kernel
theorem dX12_alarm_148 : decode cX12_alarm 148 = .ok (.getfield 260, 3) := by decide +kernel
theorem dX12_alarm_151 : decode cX12_alarm 151 = .ok (.iload 6, 2) := by decide +kernel
theorem dX12_alarm_153 : decode cX12_alarm 153 = .ok (.iaload, 1) := by decide +kernel
theorem dX12_alarm_154 : decode cX12_alarm 154 = .ok (.iadd, 1) := by decide +kernel
theorem dX12_alarm_155 : decode cX12_alarm 155 = .ok (.iload 5, 2) := by decide +kernel
theorem dX12_alarm_157 : decode cX12_alarm 157 = .ok (.iastore, 1) := by decide +kernel
theorem dX12_alarm_158 : decode cX12_alarm 158 = .ok (.aload_n 0, 1) := by decide +kernel
theorem dX12_alarm_159 : decode cX12_alarm 159 = .ok (.getfield 260, 3) := by decide +kernel
theorem dX12_alarm_162 : decode cX12_alarm 162 = .ok (.iload 6, 2) := by decide +kernel
theorem dX12_alarm_164 : decode cX12_alarm 164 = .ok (.iconst (-1), 1) := by decide +kernel
theorem dX12_alarm_165 : decode cX12_alarm 165 = .ok (.iastore, 1) := by decide +kernel
theorem dX12_alarm_166 : decode cX12_alarm 166 = .ok (.return_, 1) := by decide +kernel
theorem dX12_region_0 : decode cX12_region 0 = .ok (.aload_n 0, 1) := by decide +kernel
theorem dX12_region_1 : decode cX12_region 1 = .ok (.getfield 588, 3) := by decide +kernel
theorem dX12_region_4 : decode cX12_region 4 = .ok (.aload_n 0, 1) := by decide +kernel
theorem dX12_region_5 : decode cX12_region 5 = .ok (.getfield 591, 3) := by decide +kernel
theorem dX12_region_8 : decode cX12_region 8 = .ok (.if_icmp .eq 21, 3) := by decide +kernel
theorem dX12_region_11 : decode cX12_region 11 = .ok (.aload_n 0, 1) := by decide +kernel
theorem dX12_region_12 : decode cX12_region 12 = .ok (.getfield 224, 3) := by decide +kernel
theorem dX12_region_15 : decode cX12_region 15 = .ok (.iload_n 1, 1) := by decide +kernel
theorem dX12_region_16 : decode cX12_region 16 = .ok (.baload, 1) := by decide +kernel
theorem dX12_region_17 : decode cX12_region 17 = .ok (.ifCond .eq 17, 3) := by decide +kernel
theorem dX12_region_20 : decode cX12_region 20 = .ok (.aload_n 0, 1) := by decide +kernel
theorem dX12_region_21 : decode cX12_region 21 = .ok (.getfield 236, 3) := by decide +kernel
theorem dX12_region_24 : decode cX12_region 24 = .ok (.iload_n 1, 1) := by decide +kernel
theorem dX12_region_25 : decode cX12_region 25 = .ok (.iaload, 1) := by decide +kernel
theorem dX12_region_26 : decode cX12_region 26 = .ok (.ifCond .ne 8, 3) := by decide +kernel
theorem dX12_region_29 : decode cX12_region 29 = .ok (.aload_n 0, 1) := by decide +kernel
theorem dX12_region_30 : decode cX12_region 30 = .ok (.iconst 0, 1) := by decide +kernel
theorem dX12_region_31 : decode cX12_region 31 = .ok (.putfield 594, 3) := by decide +kernel
theorem dX12_region_34 : decode cX12_region 34 = .ok (.aload_n 0, 1) := by decide +kernel
theorem dX12_region_35 : decode cX12_region 35 = .ok (.getfield 594, 3) := by decide +kernel
theorem dX12_region_38 : decode cX12_region 38 = .ok (.ifCond .ne 125, 3) := by decide +kernel
theorem dX12_region_41 : decode cX12_region 41 = .ok (.aload_n 0, 1) := by decide +kernel
theorem dX12_region_42 : decode cX12_region 42 = .ok (.getfield 224, 3) := by decide +kernel
theorem dX12_region_45 : decode cX12_region 45 = .ok (.iload_n 1, 1) := by decide +kernel
theorem dX12_region_46 : decode cX12_region 46 = .ok (.baload, 1) := by decide +kernel
theorem dX12_region_47 : decode cX12_region 47 = .ok (.ifCond .eq 116, 3) := by decide +kernel
theorem dX12_region_50 : decode cX12_region 50 = .ok (.aload_n 0, 1) := by decide +kernel
theorem dX12_region_51 : decode cX12_region 51 = .ok (.getfield 233, 3) := by decide +kernel
theorem dX12_region_54 : decode cX12_region 54 = .ok (.iload_n 1, 1) := by decide +kernel
theorem dX12_region_55 : decode cX12_region 55 = .ok (.iaload, 1) := by decide +kernel
theorem dX12_region_56 : decode cX12_region 56 = .ok (.iconst 2, 1) := by decide +kernel
theorem dX12_region_57 : decode cX12_region 57 = .ok (.if_icmp .ne 106, 3) := by decide +kernel
theorem dX12_region_60 : decode cX12_region 60 = .ok (.aload_n 0, 1) := by decide +kernel
theorem dX12_region_61 : decode cX12_region 61 = .ok (.getfield 236, 3) := by decide +kernel
theorem dX12_region_64 : decode cX12_region 64 = .ok (.iload_n 1, 1) := by decide +kernel
theorem dX12_region_65 : decode cX12_region 65 = .ok (.iaload, 1) := by decide +kernel
theorem dX12_region_66 : decode cX12_region 66 = .ok (.istore_n 2, 1) := by decide +kernel
theorem dX12_region_67 : decode cX12_region 67 = .ok (.aload_n 0, 1) := by decide +kernel
theorem dX12_region_68 : decode cX12_region 68 = .ok (.getfield 31, 3) := by decide +kernel
theorem dX12_region_71 : decode cX12_region 71 = .ok (.sipush 12001, 3) := by decide +kernel
theorem dX12_region_74 : decode cX12_region 74 = .ok (.iload_n 2, 1) := by decide +kernel
theorem dX12_region_75 : decode cX12_region 75 = .ok (.invokestatic 335, 3) := by decide +kernel
theorem dX12_region_78 : decode cX12_region 78 = .ok (.istore_n 3, 1) := by decide +kernel
theorem dX12_region_79 : decode cX12_region 79 = .ok (.aload_n 0, 1) := by decide +kernel
theorem dX12_region_80 : decode cX12_region 80 = .ok (.iload_n 3, 1) := by decide +kernel
theorem dX12_region_81 : decode cX12_region 81 = .ok (.ifCond .le 7, 3) := by decide +kernel
theorem dX12_region_84 : decode cX12_region 84 = .ok (.iconst 1, 1) := by decide +kernel
theorem dX12_region_85 : decode cX12_region 85 = .ok (.goto 4, 3) := by decide +kernel
theorem dX12_region_88 : decode cX12_region 88 = .ok (.iconst 0, 1) := by decide +kernel
theorem dX12_region_89 : decode cX12_region 89 = .ok (.putfield 594, 3) := by decide +kernel
theorem dX12_region_92 : decode cX12_region 92 = .ok (.aload_n 0, 1) := by decide +kernel
theorem dX12_region_93 : decode cX12_region 93 = .ok (.iload_n 3, 1) := by decide +kernel
theorem dX12_region_94 : decode cX12_region 94 = .ok (.putfield 591, 3) := by decide +kernel
theorem dX12_region_97 : decode cX12_region 97 = .ok (.aload_n 0, 1) := by decide +kernel
theorem dX12_region_98 : decode cX12_region 98 = .ok (.iconst 0, 1) := by decide +kernel
theorem dX12_region_99 : decode cX12_region 99 = .ok (.putfield 588, 3) := by decide +kernel
theorem dX12_region_102 : decode cX12_region 102 = .ok (.aload_n 0, 1) := by decide +kernel
theorem dX12_region_103 : decode cX12_region 103 = .ok (.iconst 0, 1) := by decide +kernel
theorem dX12_region_104 : decode cX12_region 104 = .ok (.putfield 598, 3) := by decide +kernel
theorem dX12_region_107 : decode cX12_region 107 = .ok (.iconst 0, 1) := by decide +kernel
theorem dX12_region_108 : decode cX12_region 108 = .ok (.istore 4, 2) := by decide +kernel
theorem dX12_region_110 : decode cX12_region 110 = .ok (.iload 4, 2) := by decide +kernel
theorem dX12_region_112 : decode cX12_region 112 = .ok (.iload_n 3, 1) := by decide +kernel
theorem dX12_region_113 : decode cX12_region 113 = .ok (.if_icmp .ge 50, 3) := by decide +kernel
theorem dX12_region_116 : decode cX12_region 116 = .ok (.aload_n 0, 1) := by decide +kernel
theorem dX12_region_117 : decode cX12_region 117 = .ok (.getfield 266, 3) := by decide +kernel
theorem dX12_region_120 : decode cX12_region 120 = .ok (.iload 4, 2) := by decide +kernel
theorem dX12_region_122 : decode cX12_region 122 = .ok (.aload_n 0, 1) := by decide +kernel
theorem dX12_region_123 : decode cX12_region 123 = .ok (.getfield 31, 3) := by decide +kernel
theorem dX12_region_126 : decode cX12_region 126 = .ok (.sipush 12001, 3) := by decide +kernel
theorem dX12_region_129 : decode cX12_region 129 = .ok (.aload_n 0, 1) := by decide +kernel
theorem dX12_region_130 : decode cX12_region 130 = .ok (.getfield 22, 3) := by decide +kernel
theorem dX12_region_133 : decode cX12_region 133 = .ok (.iload_n 3, 1) := by decide +kernel
theorem dX12_region_134 : decode cX12_region 134 = .ok (.iload 4, 2) := by decide +kernel
theorem dX12_region_136 : decode cX12_region 136 = .ok (.isub, 1) := by decide +kernel
theorem dX12_region_137 : decode cX12_region 137 = .ok (.iload_n 2, 1) := by decide +kernel
theorem dX12_region_138 : decode cX12_region 138 = .ok (.invokestatic 339, 3) := by decide +kernel
theorem dX12_region_141 : decode cX12_region 141 = .ok (.iastore, 1) := by decide +kernel
theorem dX12_region_142 : decode cX12_region 142 = .ok (.iload_n 2, 1) := by decide +kernel
theorem dX12_region_143 : decode cX12_region 143 = .ok (.aload_n 0, 1) := by decide +kernel
theorem dX12_region_144 : decode cX12_region 144 = .ok (.getfield 22, 3) := by decide +kernel
theorem dX12_region_147 : decode cX12_region 147 = .ok (.aload_n 0, 1) := by decide +kernel
theorem dX12_region_148 : decode cX12_region 148 = .ok (.getfield 266, 3) := by decide +kernel
theorem dX12_region_151 : decode cX12_region 151 = .ok (.iload 4, 2) := by decide +kernel
theorem dX12_region_153 : decode cX12_region 153 = .ok (.iaload, 1) := by decide +kernel
theorem dX12_region_154 : decode cX12_region 154 = .ok (.iaload, 1) := by decide +kernel
theorem dX12_region_155 : decode cX12_region 155 = .ok (.isub, 1) := by decide +kernel
theorem dX12_region_156 : decode cX12_region 156 = .ok (.istore_n 2, 1) := by decide +kernel
theorem dX12_region_157 : decode cX12_region 157 = .ok (.iinc 4 1, 3) := by decide +kernel
theorem dX12_region_160 : decode cX12_region 160 = .ok (.goto (-50), 3) := by decide +kernel
theorem dX12_region_163 : decode cX12_region 163 = .ok (.aload_n 0, 1) := by decide +kernel
theorem dX12_region_164 : decode cX12_region 164 = .ok (.getfield 269, 3) := by decide +kernel
theorem dX12_region_167 : decode cX12_region 167 = .ok (.iload_n 1, 1) := by decide +kernel
theorem dX12_region_168 : decode cX12_region 168 = .ok (.aload_n 0, 1) := by decide +kernel
theorem dX12_region_169 : decode cX12_region 169 = .ok (.getfield 594, 3) := by decide +kernel
theorem dX12_region_172 : decode cX12_region 172 = .ok (.ifCond .eq 17, 3) := by decide +kernel
theorem dX12_region_175 : decode cX12_region 175 = .ok (.iconst 1, 1) := by decide +kernel
theorem dX12_region_176 : decode cX12_region 176 = .ok (.aload_n 0, 1) := by decide +kernel
theorem dX12_region_177 : decode cX12_region 177 = .ok (.getfield 266, 3) := by decide +kernel
theorem dX12_region_180 : decode cX12_region 180 = .ok (.aload_n 0, 1) := by decide +kernel
theorem dX12_region_181 : decode cX12_region 181 = .ok (.getfield 588, 3) := by decide +kernel
theorem dX12_region_184 : decode cX12_region 184 = .ok (.iaload, 1) := by decide +kernel
theorem dX12_region_185 : decode cX12_region 185 = .ok (.iadd, 1) := by decide +kernel
theorem dX12_region_186 : decode cX12_region 186 = .ok (.goto 4, 3) := by decide +kernel
theorem dX12_region_189 : decode cX12_region 189 = .ok (.iconst 0, 1) := by decide +kernel
theorem dX12_region_190 : decode cX12_region 190 = .ok (.iastore, 1) := by decide +kernel
theorem dX12_region_191 : decode cX12_region 191 = .ok (.aload_n 0, 1) := by decide +kernel
theorem dX12_region_192 : decode cX12_region 192 = .ok (.getfield 272, 3) := by decide +kernel
theorem dX12_region_195 : decode cX12_region 195 = .ok (.iload_n 1, 1) := by decide +kernel
theorem dX12_region_196 : decode cX12_region 196 = .ok (.aload_n 0, 1) := by decide +kernel
theorem dX12_region_197 : decode cX12_region 197 = .ok (.getfield 594, 3) := by decide +kernel
theorem dX12_region_200 : decode cX12_region 200 = .ok (.ifCond .eq 10, 3) := by decide +kernel
theorem dX12_region_203 : decode cX12_region 203 = .ok (.aload_n 0, 1) := by decide +kernel
theorem dX12_region_204 : decode cX12_region 204 = .ok (.getfield 598, 3) := by decide +kernel
theorem dX12_region_207 : decode cX12_region 207 = .ok (.goto 4, 3) := by decide +kernel
theorem dX12_region_210 : decode cX12_region 210 = .ok (.iconst (-1), 1) := by decide +kernel
theorem dX12_region_211 : decode cX12_region 211 = .ok (.iastore, 1) := by decide +kernel
theorem dX12_region_212 : decode cX12_region 212 = .ok (.aload_n 0, 1) := by decide +kernel
theorem dX12_region_213 : decode cX12_region 213 = .ok (.getfield 594, 3) := by decide +kernel
theorem dX12_region_216 : decode cX12_region 216 = .ok (.ifCond .eq 49, 3) := by decide +kernel
theorem dX12_region_219 : decode cX12_region 219 = .ok (.aload_n 0, 1) := by decide +kernel
theorem dX12_region_220 : decode cX12_region 220 = .ok (.dup, 1) := by decide +kernel
theorem dX12_region_221 : decode cX12_region 221 = .ok (.getfield 598, 3) := by decide +kernel
theorem dX12_region_224 : decode cX12_region 224 = .ok (.iconst 1, 1) := by decide +kernel
theorem dX12_region_225 : decode cX12_region 225 = .ok (.iadd, 1) := by decide +kernel
theorem dX12_region_226 : decode cX12_region 226 = .ok (.putfield 598, 3) := by decide +kernel
theorem dX12_region_229 : decode cX12_region 229 = .ok (.aload_n 0, 1) := by decide +kernel
theorem dX12_region_230 : decode cX12_region 230 = .ok (.getfield 598, 3) := by decide +kernel
theorem dX12_region_233 : decode cX12_region 233 = .ok (.aload_n 0, 1) := by decide +kernel
theorem dX12_region_234 : decode cX12_region 234 = .ok (.getfield 22, 3) := by decide +kernel
theorem dX12_region_237 : decode cX12_region 237 = .ok (.aload_n 0, 1) := by decide +kernel
theorem dX12_region_238 : decode cX12_region 238 = .ok (.getfield 266, 3) := by decide +kernel
theorem dX12_region_241 : decode cX12_region 241 = .ok (.aload_n 0, 1) := by decide +kernel
theorem dX12_region_242 : decode cX12_region 242 = .ok (.getfield 588, 3) := by decide +kernel
theorem dX12_region_245 : decode cX12_region 245 = .ok (.iaload, 1) := by decide +kernel
theorem dX12_region_246 : decode cX12_region 246 = .ok (.iaload, 1) := by decide +kernel
theorem dX12_region_247 : decode cX12_region 247 = .ok (.if_icmp .ne 18, 3) := by decide +kernel
theorem dX12_region_250 : decode cX12_region 250 = .ok (.aload_n 0, 1) := by decide +kernel
theorem dX12_region_251 : decode cX12_region 251 = .ok (.iconst 0, 1) := by decide +kernel
theorem dX12_region_252 : decode cX12_region 252 = .ok (.putfield 598, 3) := by decide +kernel
theorem dX12_region_255 : decode cX12_region 255 = .ok (.aload_n 0, 1) := by decide +kernel
theorem dX12_region_256 : decode cX12_region 256 = .ok (.dup, 1) := by decide +kernel
theorem dX12_region_257 : decode cX12_region 257 = .ok (.getfield 588, 3) := by decide +kernel
theorem dX12_region_260 : decode cX12_region 260 = .ok (.iconst 1, 1) := by decide +kernel
theorem dX12_region_261 : decode cX12_region 261 = .ok (.iadd, 1) := by decide +kernel
theorem dX12_region_262 : decode cX12_region 262 = .ok (.putfield 588, 3) := by decide +kernel
theorem dX12_region_265 : decode cX12_region 265 = .ok (.return_, 1) := by decide +kernel
theorem dX12_eventOf_0 : decode cX12_eventOf 0 = .ok (.aload_n 0, 1) := by decide +kernel
theorem dX12_eventOf_1 : decode cX12_eventOf 1 = .ok (.iload_n 1, 1) := by decide +kernel
theorem dX12_eventOf_2 : decode cX12_eventOf 2 = .ok (.iload_n 2, 1) := by decide +kernel
theorem dX12_eventOf_3 : decode cX12_eventOf 3 = .ok (.invokevirtual 319, 3) := by decide +kernel
theorem dX12_eventOf_6 : decode cX12_eventOf 6 = .ok (.ifCond .eq 15, 3) := by decide +kernel
theorem dX12_eventOf_9 : decode cX12_eventOf 9 = .ok (.iload_n 3, 1) := by decide +kernel
theorem dX12_eventOf_10 : decode cX12_eventOf 10 = .ok (.i2l, 1) := by decide +kernel
theorem dX12_eventOf_11 : decode cX12_eventOf 11 = .ok (.lconst 0, 1) := by decide +kernel
theorem dX12_eventOf_12 : decode cX12_eventOf 12 = .ok (.ldc2_w 312, 3) := by decide +kernel
theorem dX12_eventOf_15 : decode cX12_eventOf 15 = .ok (.invokestatic 287, 3) := by decide +kernel
theorem dX12_eventOf_18 : decode cX12_eventOf 18 = .ok (.ifCond .ne 6, 3) := by decide +kernel
theorem dX12_eventOf_21 : decode cX12_eventOf 21 = .ok (.bipush (-2), 2) := by decide +kernel
theorem dX12_eventOf_23 : decode cX12_eventOf 23 = .ok (.ireturn, 1) := by decide +kernel
theorem dX12_eventOf_24 : decode cX12_eventOf 24 = .ok (.bipush 60, 2) := by decide +kernel
theorem dX12_eventOf_26 : decode cX12_eventOf 26 = .ok (.iload_n 1, 1) := by decide +kernel
theorem dX12_eventOf_27 : decode cX12_eventOf 27 = .ok (.imul, 1) := by decide +kernel
theorem dX12_eventOf_28 : decode cX12_eventOf 28 = .ok (.iload_n 2, 1) := by decide +kernel
theorem dX12_eventOf_29 : decode cX12_eventOf 29 = .ok (.iadd, 1) := by decide +kernel
theorem dX12_eventOf_30 : decode cX12_eventOf 30 = .ok (.istore 4, 2) := by decide +kernel
theorem dX12_eventOf_32 : decode cX12_eventOf 32 = .ok (.iload_n 3, 1) := by decide +kernel
theorem dX12_eventOf_33 : decode cX12_eventOf 33 = .ok (.ifCond .ne 13, 3) := by decide +kernel
theorem dX12_eventOf_36 : decode cX12_eventOf 36 = .ok (.aload_n 0, 1) := by decide +kernel
theorem dX12_eventOf_37 : decode cX12_eventOf 37 = .ok (.getfield 49, 3) := by decide +kernel
theorem dX12_eventOf_40 : decode cX12_eventOf 40 = .ok (.iload 4, 2) := by decide +kernel
theorem dX12_eventOf_42 : decode cX12_eventOf 42 = .ok (.iaload, 1) := by decide +kernel
theorem dX12_eventOf_43 : decode cX12_eventOf 43 = .ok (.goto 40, 3) := by decide +kernel
theorem dX12_eventOf_46 : decode cX12_eventOf 46 = .ok (.iload_n 3, 1) := by decide +kernel
theorem dX12_eventOf_47 : decode cX12_eventOf 47 = .ok (.iconst 1, 1) := by decide +kernel
theorem dX12_eventOf_48 : decode cX12_eventOf 48 = .ok (.if_icmp .ne 13, 3) := by decide +kernel
theorem dX12_eventOf_51 : decode cX12_eventOf 51 = .ok (.aload_n 0, 1) := by decide +kernel
theorem dX12_eventOf_52 : decode cX12_eventOf 52 = .ok (.getfield 52, 3) := by decide +kernel
theorem dX12_eventOf_55 : decode cX12_eventOf 55 = .ok (.iload 4, 2) := by decide +kernel
theorem dX12_eventOf_57 : decode cX12_eventOf 57 = .ok (.iaload, 1) := by decide +kernel
theorem dX12_eventOf_58 : decode cX12_eventOf 58 = .ok (.goto 25, 3) := by decide +kernel
theorem dX12_eventOf_61 : decode cX12_eventOf 61 = .ok (.iload_n 3, 1) := by decide +kernel
theorem dX12_eventOf_62 : decode cX12_eventOf 62 = .ok (.iconst 2, 1) := by decide +kernel
theorem dX12_eventOf_63 : decode cX12_eventOf 63 = .ok (.if_icmp .ne 13, 3) := by decide +kernel
theorem dX12_eventOf_66 : decode cX12_eventOf 66 = .ok (.aload_n 0, 1) := by decide +kernel
theorem dX12_eventOf_67 : decode cX12_eventOf 67 = .ok (.getfield 46, 3) := by decide +kernel
theorem dX12_eventOf_70 : decode cX12_eventOf 70 = .ok (.iload 4, 2) := by decide +kernel
theorem dX12_eventOf_72 : decode cX12_eventOf 72 = .ok (.iaload, 1) := by decide +kernel
theorem dX12_eventOf_73 : decode cX12_eventOf 73 = .ok (.goto 10, 3) := by decide +kernel
theorem dX12_eventOf_76 : decode cX12_eventOf 76 = .ok (.aload_n 0, 1) := by decide +kernel
theorem dX12_eventOf_77 : decode cX12_eventOf 77 = .ok (.getfield 55, 3) := by decide +kernel
theorem dX12_eventOf_80 : decode cX12_eventOf 80 = .ok (.iload 4, 2) := by decide +kernel
theorem dX12_eventOf_82 : decode cX12_eventOf 82 = .ok (.iaload, 1) := by decide +kernel
theorem dX12_eventOf_83 : decode cX12_eventOf 83 = .ok (.ireturn, 1) := by decide +kernel
theorem dX12_source_0 : decode cX12_source 0 = .ok (.iload_n 1, 1) := by decide +kernel
theorem dX12_source_1 : decode cX12_source 1 = .ok (.invokestatic 308, 3) := by decide +kernel
theorem dX12_source_4 : decode cX12_source 4 = .ok (.ifCond .eq 31, 3) := by decide +kernel
theorem dX12_source_7 : decode cX12_source 7 = .ok (.iload_n 2, 1) := by decide +kernel
theorem dX12_source_8 : decode cX12_source 8 = .ok (.i2l, 1) := by decide +kernel
theorem dX12_source_9 : decode cX12_source 9 = .ok (.lconst 0, 1) := by decide +kernel
theorem dX12_source_10 : decode cX12_source 10 = .ok (.aload_n 0, 1) := by decide +kernel
theorem dX12_source_11 : decode cX12_source 11 = .ok (.getfield 314, 3) := by decide +kernel
theorem dX12_source_14 : decode cX12_source 14 = .ok (.iconst 1, 1) := by decide +kernel
theorem dX12_source_15 : decode cX12_source 15 = .ok (.isub, 1) := by decide +kernel
theorem dX12_source_16 : decode cX12_source 16 = .ok (.i2l, 1) := by decide +kernel
theorem dX12_source_17 : decode cX12_source 17 = .ok (.invokestatic 287, 3) := by decide +kernel
theorem dX12_source_20 : decode cX12_source 20 = .ok (.ifCond .eq 15, 3) := by decide +kernel
theorem dX12_source_23 : decode cX12_source 23 = .ok (.iload_n 3, 1) := by decide +kernel
theorem dX12_source_24 : decode cX12_source 24 = .ok (.i2l, 1) := by decide +kernel
theorem dX12_source_25 : decode cX12_source 25 = .ok (.lconst 0, 1) := by decide +kernel
theorem dX12_source_26 : decode cX12_source 26 = .ok (.ldc2_w 601, 3) := by decide +kernel
theorem dX12_source_29 : decode cX12_source 29 = .ok (.invokestatic 287, 3) := by decide +kernel
theorem dX12_source_32 : decode cX12_source 32 = .ok (.ifCond .ne 6, 3) := by decide +kernel
theorem dX12_source_35 : decode cX12_source 35 = .ok (.bipush (-2), 2) := by decide +kernel
theorem dX12_source_37 : decode cX12_source 37 = .ok (.ireturn, 1) := by decide +kernel
theorem dX12_source_38 : decode cX12_source 38 = .ok (.sipush 3000, 3) := by decide +kernel
theorem dX12_source_41 : decode cX12_source 41 = .ok (.iload_n 1, 1) := by decide +kernel
theorem dX12_source_42 : decode cX12_source 42 = .ok (.imul, 1) := by decide +kernel
theorem dX12_source_43 : decode cX12_source 43 = .ok (.iload_n 2, 1) := by decide +kernel
theorem dX12_source_44 : decode cX12_source 44 = .ok (.iadd, 1) := by decide +kernel
theorem dX12_source_45 : decode cX12_source 45 = .ok (.istore 4, 2) := by decide +kernel
theorem dX12_source_47 : decode cX12_source 47 = .ok (.iload_n 3, 1) := by decide +kernel
theorem dX12_source_48 : decode cX12_source 48 = .ok (.ifCond .ne 13, 3) := by decide +kernel
theorem dX12_source_51 : decode cX12_source 51 = .ok (.aload_n 0, 1) := by decide +kernel
theorem dX12_source_52 : decode cX12_source 52 = .ok (.getfield 82, 3) := by decide +kernel
theorem dX12_source_55 : decode cX12_source 55 = .ok (.iload 4, 2) := by decide +kernel
theorem dX12_source_57 : decode cX12_source 57 = .ok (.iaload, 1) := by decide +kernel
theorem dX12_source_58 : decode cX12_source 58 = .ok (.goto 55, 3) := by decide +kernel
theorem dX12_source_61 : decode cX12_source 61 = .ok (.iload_n 3, 1) := by decide +kernel
theorem dX12_source_62 : decode cX12_source 62 = .ok (.iconst 1, 1) := by decide +kernel
theorem dX12_source_63 : decode cX12_source 63 = .ok (.if_icmp .ne 13, 3) := by decide +kernel
theorem dX12_source_66 : decode cX12_source 66 = .ok (.aload_n 0, 1) := by decide +kernel
theorem dX12_source_67 : decode cX12_source 67 = .ok (.getfield 85, 3) := by decide +kernel
theorem dX12_source_70 : decode cX12_source 70 = .ok (.iload 4, 2) := by decide +kernel
theorem dX12_source_72 : decode cX12_source 72 = .ok (.iaload, 1) := by decide +kernel
theorem dX12_source_73 : decode cX12_source 73 = .ok (.goto 40, 3) := by decide +kernel
theorem dX12_source_76 : decode cX12_source 76 = .ok (.iload_n 3, 1) := by decide +kernel
theorem dX12_source_77 : decode cX12_source 77 = .ok (.iconst 2, 1) := by decide +kernel
theorem dX12_source_78 : decode cX12_source 78 = .ok (.if_icmp .ne 13, 3) := by decide +kernel
theorem dX12_source_81 : decode cX12_source 81 = .ok (.aload_n 0, 1) := by decide +kernel
theorem dX12_source_82 : decode cX12_source 82 = .ok (.getfield 88, 3) := by decide +kernel
theorem dX12_source_85 : decode cX12_source 85 = .ok (.iload 4, 2) := by decide +kernel
theorem dX12_source_87 : decode cX12_source 87 = .ok (.iaload, 1) := by decide +kernel
theorem dX12_source_88 : decode cX12_source 88 = .ok (.goto 25, 3) := by decide +kernel
theorem dX12_source_91 : decode cX12_source 91 = .ok (.iload_n 3, 1) := by decide +kernel
theorem dX12_source_92 : decode cX12_source 92 = .ok (.iconst 3, 1) := by decide +kernel
theorem dX12_source_93 : decode cX12_source 93 = .ok (.if_icmp .ne 13, 3) := by decide +kernel
theorem dX12_source_96 : decode cX12_source 96 = .ok (.aload_n 0, 1) := by decide +kernel
theorem dX12_source_97 : decode cX12_source 97 = .ok (.getfield 91, 3) := by decide +kernel
theorem dX12_source_100 : decode cX12_source 100 = .ok (.iload 4, 2) := by decide +kernel
theorem dX12_source_102 : decode cX12_source 102 = .ok (.iaload, 1) := by decide +kernel
theorem dX12_source_103 : decode cX12_source 103 = .ok (.goto 10, 3) := by decide +kernel
theorem dX12_source_106 : decode cX12_source 106 = .ok (.aload_n 0, 1) := by decide +kernel
theorem dX12_source_107 : decode cX12_source 107 = .ok (.getfield 94, 3) := by decide +kernel
theorem dX12_source_110 : decode cX12_source 110 = .ok (.iload 4, 2) := by decide +kernel
theorem dX12_source_112 : decode cX12_source 112 = .ok (.iaload, 1) := by decide +kernel
theorem dX12_source_113 : decode cX12_source 113 = .ok (.ireturn, 1) := by decide +kernel
theorem dX12_rows_0 : decode cX12_rows 0 = .ok (.iload_n 1, 1) := by decide +kernel
theorem dX12_rows_1 : decode cX12_rows 1 = .ok (.invokestatic 308, 3) := by decide +kernel
theorem dX12_rows_4 : decode cX12_rows 4 = .ok (.ifCond .eq 12, 3) := by decide +kernel
theorem dX12_rows_7 : decode cX12_rows 7 = .ok (.aload_n 0, 1) := by decide +kernel
theorem dX12_rows_8 : decode cX12_rows 8 = .ok (.getfield 100, 3) := by decide +kernel
theorem dX12_rows_11 : decode cX12_rows 11 = .ok (.iload_n 1, 1) := by decide +kernel
theorem dX12_rows_12 : decode cX12_rows 12 = .ok (.iaload, 1) := by decide +kernel
theorem dX12_rows_13 : decode cX12_rows 13 = .ok (.goto 5, 3) := by decide +kernel
theorem dX12_rows_16 : decode cX12_rows 16 = .ok (.bipush (-2), 2) := by decide +kernel
theorem dX12_rows_18 : decode cX12_rows 18 = .ok (.ireturn, 1) := by decide +kernel
theorem dX12_row_0 : decode cX12_row 0 = .ok (.iload_n 1, 1) := by decide +kernel
theorem dX12_row_1 : decode cX12_row 1 = .ok (.invokestatic 308, 3) := by decide +kernel
theorem dX12_row_4 : decode cX12_row 4 = .ok (.ifCond .eq 33, 3) := by decide +kernel
theorem dX12_row_7 : decode cX12_row 7 = .ok (.iload_n 2, 1) := by decide +kernel
theorem dX12_row_8 : decode cX12_row 8 = .ok (.i2l, 1) := by decide +kernel
theorem dX12_row_9 : decode cX12_row 9 = .ok (.lconst 0, 1) := by decide +kernel
theorem dX12_row_10 : decode cX12_row 10 = .ok (.aload_n 0, 1) := by decide +kernel
theorem dX12_row_11 : decode cX12_row 11 = .ok (.getfield 100, 3) := by decide +kernel
theorem dX12_row_14 : decode cX12_row 14 = .ok (.iload_n 1, 1) := by decide +kernel
theorem dX12_row_15 : decode cX12_row 15 = .ok (.iaload, 1) := by decide +kernel
theorem dX12_row_16 : decode cX12_row 16 = .ok (.iconst 1, 1) := by decide +kernel
theorem dX12_row_17 : decode cX12_row 17 = .ok (.isub, 1) := by decide +kernel
theorem dX12_row_18 : decode cX12_row 18 = .ok (.i2l, 1) := by decide +kernel
theorem dX12_row_19 : decode cX12_row 19 = .ok (.invokestatic 287, 3) := by decide +kernel
theorem dX12_row_22 : decode cX12_row 22 = .ok (.ifCond .eq 15, 3) := by decide +kernel
theorem dX12_row_25 : decode cX12_row 25 = .ok (.iload_n 3, 1) := by decide +kernel
theorem dX12_row_26 : decode cX12_row 26 = .ok (.i2l, 1) := by decide +kernel
theorem dX12_row_27 : decode cX12_row 27 = .ok (.lconst 0, 1) := by decide +kernel
theorem dX12_row_28 : decode cX12_row 28 = .ok (.ldc2_w 278, 3) := by decide +kernel
theorem dX12_row_31 : decode cX12_row 31 = .ok (.invokestatic 287, 3) := by decide +kernel
theorem dX12_row_34 : decode cX12_row 34 = .ok (.ifCond .ne 6, 3) := by decide +kernel
theorem dX12_row_37 : decode cX12_row 37 = .ok (.bipush (-2), 2) := by decide +kernel
theorem dX12_row_39 : decode cX12_row 39 = .ok (.ireturn, 1) := by decide +kernel
theorem dX12_row_40 : decode cX12_row 40 = .ok (.aload_n 0, 1) := by decide +kernel
theorem dX12_row_41 : decode cX12_row 41 = .ok (.getfield 103, 3) := by decide +kernel
theorem dX12_row_44 : decode cX12_row 44 = .ok (.sipush 3000, 3) := by decide +kernel
theorem dX12_row_47 : decode cX12_row 47 = .ok (.iload_n 1, 1) := by decide +kernel
theorem dX12_row_48 : decode cX12_row 48 = .ok (.imul, 1) := by decide +kernel
theorem dX12_row_49 : decode cX12_row 49 = .ok (.iload_n 2, 1) := by decide +kernel
theorem dX12_row_50 : decode cX12_row 50 = .ok (.iadd, 1) := by decide +kernel
theorem dX12_row_51 : decode cX12_row 51 = .ok (.iaload, 1) := by decide +kernel
theorem dX12_row_52 : decode cX12_row 52 = .ok (.istore 4, 2) := by decide +kernel
theorem dX12_row_54 : decode cX12_row 54 = .ok (.iload_n 2, 1) := by decide +kernel
theorem dX12_row_55 : decode cX12_row 55 = .ok (.iconst 1, 1) := by decide +kernel
theorem dX12_row_56 : decode cX12_row 56 = .ok (.iadd, 1) := by decide +kernel
theorem dX12_row_57 : decode cX12_row 57 = .ok (.aload_n 0, 1) := by decide +kernel
theorem dX12_row_58 : decode cX12_row 58 = .ok (.getfield 100, 3) := by decide +kernel
theorem dX12_row_61 : decode cX12_row 61 = .ok (.iload_n 1, 1) := by decide +kernel
theorem dX12_row_62 : decode cX12_row 62 = .ok (.iaload, 1) := by decide +kernel
theorem dX12_row_63 : decode cX12_row 63 = .ok (.if_icmp .ge 20, 3) := by decide +kernel
theorem dX12_row_66 : decode cX12_row 66 = .ok (.aload_n 0, 1) := by decide +kernel
theorem dX12_row_67 : decode cX12_row 67 = .ok (.getfield 103, 3) := by decide +kernel
theorem dX12_row_70 : decode cX12_row 70 = .ok (.sipush 3000, 3) := by decide +kernel
theorem dX12_row_73 : decode cX12_row 73 = .ok (.iload_n 1, 1) := by decide +kernel
theorem dX12_row_74 : decode cX12_row 74 = .ok (.imul, 1) := by decide +kernel
theorem dX12_row_75 : decode cX12_row 75 = .ok (.iload_n 2, 1) := by decide +kernel
theorem dX12_row_76 : decode cX12_row 76 = .ok (.iadd, 1) := by decide +kernel
theorem dX12_row_77 : decode cX12_row 77 = .ok (.iconst 1, 1) := by decide +kernel
theorem dX12_row_78 : decode cX12_row 78 = .ok (.iadd, 1) := by decide +kernel
theorem dX12_row_79 : decode cX12_row 79 = .ok (.iaload, 1) := by decide +kernel
theorem dX12_row_80 : decode cX12_row 80 = .ok (.goto 7, 3) := by decide +kernel
theorem dX12_row_83 : decode cX12_row 83 = .ok (.aload_n 0, 1) := by decide +kernel
theorem dX12_row_84 : decode cX12_row 84 = .ok (.getfield 314, 3) := by decide +kernel
theorem dX12_row_87 : decode cX12_row 87 = .ok (.istore 5, 2) := by decide +kernel
theorem dX12_row_89 : decode cX12_row 89 = .ok (.iconst 0, 1) := by decide +kernel
theorem dX12_row_90 : decode cX12_row 90 = .ok (.istore 6, 2) := by decide +kernel
theorem dX12_row_92 : decode cX12_row 92 = .ok (.iload 4, 2) := by decide +kernel
theorem dX12_row_94 : decode cX12_row 94 = .ok (.istore 7, 2) := by decide +kernel
theorem dX12_row_96 : decode cX12_row 96 = .ok (.iload 7, 2) := by decide +kernel
theorem dX12_row_98 : decode cX12_row 98 = .ok (.iload 5, 2) := by decide +kernel
theorem dX12_row_100 : decode cX12_row 100 = .ok (.if_icmp .ge 92, 3) := by decide +kernel
theorem dX12_row_103 : decode cX12_row 103 = .ok (.iload 7, 2) := by decide +kernel
theorem dX12_row_105 : decode cX12_row 105 = .ok (.aload_n 0, 1) := by decide +kernel
theorem dX12_row_106 : decode cX12_row 106 = .ok (.getfield 532, 3) := by decide +kernel
theorem dX12_row_109 : decode cX12_row 109 = .ok (.if_icmp .ge 83, 3) := by decide +kernel
theorem dX12_row_112 : decode cX12_row 112 = .ok (.sipush 3000, 3) := by decide +kernel
theorem dX12_row_115 : decode cX12_row 115 = .ok (.iload_n 1, 1) := by decide +kernel
theorem dX12_row_116 : decode cX12_row 116 = .ok (.imul, 1) := by decide +kernel
theorem dX12_row_117 : decode cX12_row 117 = .ok (.iload 7, 2) := by decide +kernel
theorem dX12_row_119 : decode cX12_row 119 = .ok (.iadd, 1) := by decide +kernel
theorem dX12_row_120 : decode cX12_row 120 = .ok (.istore 8, 2) := by decide +kernel
theorem dX12_row_122 : decode cX12_row 122 = .ok (.iload 6, 2) := by decide +kernel
theorem dX12_row_124 : decode cX12_row 124 = .ok (.aload_n 0, 1) := by decide +kernel
theorem dX12_row_125 : decode cX12_row 125 = .ok (.getfield 224, 3) := by decide +kernel
theorem dX12_row_128 : decode cX12_row 128 = .ok (.iload 8, 2) := by decide +kernel
theorem dX12_row_130 : decode cX12_row 130 = .ok (.baload, 1) := by decide +kernel
theorem dX12_row_131 : decode cX12_row 131 = .ok (.ifCond .eq 51, 3) := by decide +kernel
theorem dX12_row_134 : decode cX12_row 134 = .ok (.aload_n 0, 1) := by decide +kernel
theorem dX12_row_135 : decode cX12_row 135 = .ok (.getfield 227, 3) := by decide +kernel
theorem dX12_row_138 : decode cX12_row 138 = .ok (.iload 8, 2) := by decide +kernel
theorem dX12_row_140 : decode cX12_row 140 = .ok (.iaload, 1) := by decide +kernel
theorem dX12_row_141 : decode cX12_row 141 = .ok (.aload_n 0, 1) := by decide +kernel
theorem dX12_row_142 : decode cX12_row 142 = .ok (.getfield 88, 3) := by decide +kernel
theorem dX12_row_145 : decode cX12_row 145 = .ok (.iload 8, 2) := by decide +kernel
theorem dX12_row_147 : decode cX12_row 147 = .ok (.iaload, 1) := by decide +kernel
theorem dX12_row_148 : decode cX12_row 148 = .ok (.if_icmp .ne 34, 3) := by decide +kernel
theorem dX12_row_151 : decode cX12_row 151 = .ok (.aload_n 0, 1) := by decide +kernel
theorem dX12_row_152 : decode cX12_row 152 = .ok (.getfield 82, 3) := by decide +kernel
theorem dX12_row_155 : decode cX12_row 155 = .ok (.iload 8, 2) := by decide +kernel
theorem dX12_row_157 : decode cX12_row 157 = .ok (.iaload, 1) := by decide +kernel
theorem dX12_row_158 : decode cX12_row 158 = .ok (.ifCond .eq 20, 3) := by decide +kernel
theorem dX12_row_161 : decode cX12_row 161 = .ok (.aload_n 0, 1) := by decide +kernel
theorem dX12_row_162 : decode cX12_row 162 = .ok (.getfield 230, 3) := by decide +kernel
theorem dX12_row_165 : decode cX12_row 165 = .ok (.iload 8, 2) := by decide +kernel
theorem dX12_row_167 : decode cX12_row 167 = .ok (.iaload, 1) := by decide +kernel
theorem dX12_row_168 : decode cX12_row 168 = .ok (.aload_n 0, 1) := by decide +kernel
theorem dX12_row_169 : decode cX12_row 169 = .ok (.getfield 91, 3) := by decide +kernel
theorem dX12_row_172 : decode cX12_row 172 = .ok (.iload 8, 2) := by decide +kernel
theorem dX12_row_174 : decode cX12_row 174 = .ok (.iaload, 1) := by decide +kernel
theorem dX12_row_175 : decode cX12_row 175 = .ok (.if_icmp .ne 7, 3) := by decide +kernel
theorem dX12_row_178 : decode cX12_row 178 = .ok (.iconst 1, 1) := by decide +kernel
theorem dX12_row_179 : decode cX12_row 179 = .ok (.goto 4, 3) := by decide +kernel
theorem dX12_row_182 : decode cX12_row 182 = .ok (.iconst 0, 1) := by decide +kernel
theorem dX12_row_183 : decode cX12_row 183 = .ok (.iadd, 1) := by decide +kernel
theorem dX12_row_184 : decode cX12_row 184 = .ok (.istore 6, 2) := by decide +kernel
theorem dX12_row_186 : decode cX12_row 186 = .ok (.iinc 7 1, 3) := by decide +kernel
theorem dX12_row_189 : decode cX12_row 189 = .ok (.goto (-93), 3) := by decide +kernel
theorem dX12_row_192 : decode cX12_row 192 = .ok (.iload_n 3, 1) := by decide +kernel
theorem dX12_row_193 : decode cX12_row 193 = .ok (.ifCond .ne 8, 3) := by decide +kernel
theorem dX12_row_196 : decode cX12_row 196 = .ok (.iload 4, 2) := by decide +kernel
theorem dX12_row_198 : decode cX12_row 198 = .ok (.goto 18, 3) := by decide +kernel
theorem dX12_row_201 : decode cX12_row 201 = .ok (.iload_n 3, 1) := by decide +kernel
theorem dX12_row_202 : decode cX12_row 202 = .ok (.iconst 1, 1) := by decide +kernel
theorem dX12_row_203 : decode cX12_row 203 = .ok (.if_icmp .ne 11, 3) := by decide +kernel
theorem dX12_row_206 : decode cX12_row 206 = .ok (.iload 5, 2) := by decide +kernel
theorem dX12_row_208 : decode cX12_row 208 = .ok (.iload 4, 2) := by decide +kernel
theorem dX12_row_210 : decode cX12_row 210 = .ok (.isub, 1) := by decide +kernel
theorem dX12_row_211 : decode cX12_row 211 = .ok (.goto 5, 3) := by decide +kernel
theorem dX12_row_214 : decode cX12_row 214 = .ok (.iload 6, 2) := by decide +kernel
theorem dX12_row_216 : decode cX12_row 216 = .ok (.ireturn, 1) := by decide +kernel
theorem dX12_unit_0 : decode cX12_unit 0 = .ok (.iload_n 1, 1) := by decide +kernel
theorem dX12_unit_1 : decode cX12_unit 1 = .ok (.invokestatic 308, 3) := by decide +kernel
theorem dX12_unit_4 : decode cX12_unit 4 = .ok (.ifCond .eq 31, 3) := by decide +kernel
theorem dX12_unit_7 : decode cX12_unit 7 = .ok (.iload_n 2, 1) := by decide +kernel
theorem dX12_unit_8 : decode cX12_unit 8 = .ok (.i2l, 1) := by decide +kernel
theorem dX12_unit_9 : decode cX12_unit 9 = .ok (.lconst 0, 1) := by decide +kernel
theorem dX12_unit_10 : decode cX12_unit 10 = .ok (.aload_n 0, 1) := by decide +kernel
theorem dX12_unit_11 : decode cX12_unit 11 = .ok (.getfield 314, 3) := by decide +kernel
theorem dX12_unit_14 : decode cX12_unit 14 = .ok (.iconst 1, 1) := by decide +kernel
theorem dX12_unit_15 : decode cX12_unit 15 = .ok (.isub, 1) := by decide +kernel
theorem dX12_unit_16 : decode cX12_unit 16 = .ok (.i2l, 1) := by decide +kernel
theorem dX12_unit_17 : decode cX12_unit 17 = .ok (.invokestatic 287, 3) := by decide +kernel
theorem dX12_unit_20 : decode cX12_unit 20 = .ok (.ifCond .eq 15, 3) := by decide +kernel
theorem dX12_unit_23 : decode cX12_unit 23 = .ok (.iload_n 3, 1) := by decide +kernel
theorem dX12_unit_24 : decode cX12_unit 24 = .ok (.i2l, 1) := by decide +kernel
theorem dX12_unit_25 : decode cX12_unit 25 = .ok (.lconst 0, 1) := by decide +kernel
theorem dX12_unit_26 : decode cX12_unit 26 = .ok (.ldc2_w 601, 3) := by decide +kernel
theorem dX12_unit_29 : decode cX12_unit 29 = .ok (.invokestatic 287, 3) := by decide +kernel
theorem dX12_unit_32 : decode cX12_unit 32 = .ok (.ifCond .ne 6, 3) := by decide +kernel
theorem dX12_unit_35 : decode cX12_unit 35 = .ok (.bipush (-2), 2) := by decide +kernel
theorem dX12_unit_37 : decode cX12_unit 37 = .ok (.ireturn, 1) := by decide +kernel
theorem dX12_unit_38 : decode cX12_unit 38 = .ok (.sipush 3000, 3) := by decide +kernel
theorem dX12_unit_41 : decode cX12_unit 41 = .ok (.iload_n 1, 1) := by decide +kernel
theorem dX12_unit_42 : decode cX12_unit 42 = .ok (.imul, 1) := by decide +kernel
theorem dX12_unit_43 : decode cX12_unit 43 = .ok (.iload_n 2, 1) := by decide +kernel
theorem dX12_unit_44 : decode cX12_unit 44 = .ok (.iadd, 1) := by decide +kernel
theorem dX12_unit_45 : decode cX12_unit 45 = .ok (.istore 4, 2) := by decide +kernel
theorem dX12_unit_47 : decode cX12_unit 47 = .ok (.iload_n 3, 1) := by decide +kernel
theorem dX12_unit_48 : decode cX12_unit 48 = .ok (.ifCond .ne 13, 3) := by decide +kernel
theorem dX12_unit_51 : decode cX12_unit 51 = .ok (.aload_n 0, 1) := by decide +kernel
theorem dX12_unit_52 : decode cX12_unit 52 = .ok (.getfield 128, 3) := by decide +kernel
theorem dX12_unit_55 : decode cX12_unit 55 = .ok (.iload 4, 2) := by decide +kernel
theorem dX12_unit_57 : decode cX12_unit 57 = .ok (.iaload, 1) := by decide +kernel
theorem dX12_unit_58 : decode cX12_unit 58 = .ok (.goto 69, 3) := by decide +kernel
theorem dX12_unit_61 : decode cX12_unit 61 = .ok (.iload_n 3, 1) := by decide +kernel
theorem dX12_unit_62 : decode cX12_unit 62 = .ok (.iconst 1, 1) := by decide +kernel
theorem dX12_unit_63 : decode cX12_unit 63 = .ok (.if_icmp .ne 13, 3) := by decide +kernel
theorem dX12_unit_66 : decode cX12_unit 66 = .ok (.aload_n 0, 1) := by decide +kernel
theorem dX12_unit_67 : decode cX12_unit 67 = .ok (.getfield 131, 3) := by decide +kernel
theorem dX12_unit_70 : decode cX12_unit 70 = .ok (.iload 4, 2) := by decide +kernel
theorem dX12_unit_72 : decode cX12_unit 72 = .ok (.iaload, 1) := by decide +kernel
theorem dX12_unit_73 : decode cX12_unit 73 = .ok (.goto 54, 3) := by decide +kernel
theorem dX12_unit_76 : decode cX12_unit 76 = .ok (.iload_n 3, 1) := by decide +kernel
theorem dX12_unit_77 : decode cX12_unit 77 = .ok (.iconst 2, 1) := by decide +kernel
theorem dX12_unit_78 : decode cX12_unit 78 = .ok (.if_icmp .ne 13, 3) := by decide +kernel
theorem dX12_unit_81 : decode cX12_unit 81 = .ok (.aload_n 0, 1) := by decide +kernel
theorem dX12_unit_82 : decode cX12_unit 82 = .ok (.getfield 134, 3) := by decide +kernel
theorem dX12_unit_85 : decode cX12_unit 85 = .ok (.iload 4, 2) := by decide +kernel
theorem dX12_unit_87 : decode cX12_unit 87 = .ok (.iaload, 1) := by decide +kernel
theorem dX12_unit_88 : decode cX12_unit 88 = .ok (.goto 39, 3) := by decide +kernel
theorem dX12_unit_91 : decode cX12_unit 91 = .ok (.iload_n 3, 1) := by decide +kernel
theorem dX12_unit_92 : decode cX12_unit 92 = .ok (.iconst 3, 1) := by decide +kernel
theorem dX12_unit_93 : decode cX12_unit 93 = .ok (.if_icmp .ne 27, 3) := by decide +kernel
theorem dX12_unit_96 : decode cX12_unit 96 = .ok (.aload_n 0, 1) := by decide +kernel
theorem dX12_unit_97 : decode cX12_unit 97 = .ok (.getfield 128, 3) := by decide +kernel
theorem dX12_unit_100 : decode cX12_unit 100 = .ok (.iload 4, 2) := by decide +kernel
theorem dX12_unit_102 : decode cX12_unit 102 = .ok (.iaload, 1) := by decide +kernel
theorem dX12_unit_103 : decode cX12_unit 103 = .ok (.ifCond .ne 7, 3) := by decide +kernel
theorem dX12_unit_106 : decode cX12_unit 106 = .ok (.iconst 0, 1) := by decide +kernel
theorem dX12_unit_107 : decode cX12_unit 107 = .ok (.goto 20, 3) := by decide +kernel
theorem dX12_unit_110 : decode cX12_unit 110 = .ok (.aload_n 0, 1) := by decide +kernel
theorem dX12_unit_111 : decode cX12_unit 111 = .ok (.getfield 97, 3) := by decide +kernel
theorem dX12_unit_114 : decode cX12_unit 114 = .ok (.iload 4, 2) := by decide +kernel
theorem dX12_unit_116 : decode cX12_unit 116 = .ok (.iaload, 1) := by decide +kernel
theorem dX12_unit_117 : decode cX12_unit 117 = .ok (.goto 10, 3) := by decide +kernel
theorem dX12_unit_120 : decode cX12_unit 120 = .ok (.aload_n 0, 1) := by decide +kernel
theorem dX12_unit_121 : decode cX12_unit 121 = .ok (.getfield 137, 3) := by decide +kernel
theorem dX12_unit_124 : decode cX12_unit 124 = .ok (.iload 4, 2) := by decide +kernel
theorem dX12_unit_126 : decode cX12_unit 126 = .ok (.iaload, 1) := by decide +kernel
theorem dX12_unit_127 : decode cX12_unit 127 = .ok (.ireturn, 1) := by decide +kernel
theorem dX12_sent_0 : decode cX12_sent 0 = .ok (.iload_n 2, 1) := by decide +kernel
theorem dX12_sent_1 : decode cX12_sent 1 = .ok (.i2l, 1) := by decide +kernel
theorem dX12_sent_2 : decode cX12_sent 2 = .ok (.lconst 0, 1) := by decide +kernel
theorem dX12_sent_3 : decode cX12_sent 3 = .ok (.ldc2_w 493, 3) := by decide +kernel
theorem dX12_sent_6 : decode cX12_sent 6 = .ok (.invokestatic 287, 3) := by decide +kernel
theorem dX12_sent_9 : decode cX12_sent 9 = .ok (.ifCond .ne 6, 3) := by decide +kernel
theorem dX12_sent_12 : decode cX12_sent 12 = .ok (.bipush (-2), 2) := by decide +kernel
theorem dX12_sent_14 : decode cX12_sent 14 = .ok (.ireturn, 1) := by decide +kernel
theorem dX12_sent_15 : decode cX12_sent 15 = .ok (.iload_n 1, 1) := by decide +kernel
theorem dX12_sent_16 : decode cX12_sent 16 = .ok (.i2l, 1) := by decide +kernel
theorem dX12_sent_17 : decode cX12_sent 17 = .ok (.aload_n 0, 1) := by decide +kernel
theorem dX12_sent_18 : decode cX12_sent 18 = .ok (.getfield 437, 3) := by decide +kernel
theorem dX12_sent_21 : decode cX12_sent 21 = .ok (.sipush 256, 3) := by decide +kernel
theorem dX12_sent_24 : decode cX12_sent 24 = .ok (.if_icmp .ge 7, 3) := by decide +kernel
theorem dX12_sent_27 : decode cX12_sent 27 = .ok (.lconst 0, 1) := by decide +kernel
theorem dX12_sent_28 : decode cX12_sent 28 = .ok (.goto 12, 3) := by decide +kernel
theorem dX12_sent_31 : decode cX12_sent 31 = .ok (.aload_n 0, 1) := by decide +kernel
theorem dX12_sent_32 : decode cX12_sent 32 = .ok (.getfield 437, 3) := by decide +kernel
theorem dX12_sent_35 : decode cX12_sent 35 = .ok (.sipush 256, 3) := by decide +kernel
theorem dX12_sent_38 : decode cX12_sent 38 = .ok (.isub, 1) := by decide +kernel
theorem dX12_sent_39 : decode cX12_sent 39 = .ok (.i2l, 1) := by decide +kernel
theorem dX12_sent_40 : decode cX12_sent 40 = .ok (.aload_n 0, 1) := by decide +kernel
theorem dX12_sent_41 : decode cX12_sent 41 = .ok (.getfield 437, 3) := by decide +kernel
theorem dX12_sent_44 : decode cX12_sent 44 = .ok (.iconst 1, 1) := by decide +kernel
theorem dX12_sent_45 : decode cX12_sent 45 = .ok (.isub, 1) := by decide +kernel
theorem dX12_sent_46 : decode cX12_sent 46 = .ok (.i2l, 1) := by decide +kernel
theorem dX12_sent_47 : decode cX12_sent 47 = .ok (.invokestatic 287, 3) := by decide +kernel
theorem dX12_sent_50 : decode cX12_sent 50 = .ok (.ifCond .eq 26, 3) := by decide +kernel
theorem dX12_sent_53 : decode cX12_sent 53 = .ok (.aload_n 0, 1) := by decide +kernel
theorem dX12_sent_54 : decode cX12_sent 54 = .ok (.getfield 158, 3) := by decide +kernel
theorem dX12_sent_57 : decode cX12_sent 57 = .ok (.iload_n 1, 1) := by decide +kernel
theorem dX12_sent_58 : decode cX12_sent 58 = .ok (.sipush 256, 3) := by decide +kernel
theorem dX12_sent_61 : decode cX12_sent 61 = .ok (.irem, 1) := by decide +kernel
theorem dX12_sent_62 : decode cX12_sent 62 = .ok (.sipush 188, 3) := by decide +kernel
theorem dX12_sent_65 : decode cX12_sent 65 = .ok (.imul, 1) := by decide +kernel
theorem dX12_sent_66 : decode cX12_sent 66 = .ok (.iload_n 2, 1) := by decide +kernel
theorem dX12_sent_67 : decode cX12_sent 67 = .ok (.iadd, 1) := by decide +kernel
theorem dX12_sent_68 : decode cX12_sent 68 = .ok (.baload, 1) := by decide +kernel
theorem dX12_sent_69 : decode cX12_sent 69 = .ok (.sipush 255, 3) := by decide +kernel
theorem dX12_sent_72 : decode cX12_sent 72 = .ok (.iand, 1) := by decide +kernel
theorem dX12_sent_73 : decode cX12_sent 73 = .ok (.goto 4, 3) := by decide +kernel
theorem dX12_sent_76 : decode cX12_sent 76 = .ok (.iconst (-1), 1) := by decide +kernel
theorem dX12_sent_77 : decode cX12_sent 77 = .ok (.ireturn, 1) := by decide +kernel
theorem dX12_stored__0 : decode cX12_stored_ 0 = .ok (.iload_n 1, 1) := by decide +kernel
theorem dX12_stored__1 : decode cX12_stored_ 1 = .ok (.invokestatic 308, 3) := by decide +kernel
theorem dX12_stored__4 : decode cX12_stored_ 4 = .ok (.ifCond .ne 8, 3) := by decide +kernel
theorem dX12_stored__7 : decode cX12_stored_ 7 = .ok (.bipush (-2), 2) := by decide +kernel
theorem dX12_stored__9 : decode cX12_stored_ 9 = .ok (.goto 25, 3) := by decide +kernel
theorem dX12_stored__12 : decode cX12_stored_ 12 = .ok (.aload_n 0, 1) := by decide +kernel
theorem dX12_stored__13 : decode cX12_stored_ 13 = .ok (.getfield 314, 3) := by decide +kernel
theorem dX12_stored__16 : decode cX12_stored_ 16 = .ok (.ifCond .ne 7, 3) := by decide +kernel
theorem dX12_stored__19 : decode cX12_stored_ 19 = .ok (.iconst 0, 1) := by decide +kernel
theorem dX12_stored__20 : decode cX12_stored_ 20 = .ok (.goto 14, 3) := by decide +kernel
theorem dX12_stored__23 : decode cX12_stored_ 23 = .ok (.aload_n 0, 1) := by decide +kernel
theorem dX12_stored__24 : decode cX12_stored_ 24 = .ok (.iload_n 1, 1) := by decide +kernel
theorem dX12_stored__25 : decode cX12_stored_ 25 = .ok (.aload_n 0, 1) := by decide +kernel
theorem dX12_stored__26 : decode cX12_stored_ 26 = .ok (.getfield 314, 3) := by decide +kernel
theorem dX12_stored__29 : decode cX12_stored_ 29 = .ok (.iconst 1, 1) := by decide +kernel
theorem dX12_stored__30 : decode cX12_stored_ 30 = .ok (.isub, 1) := by decide +kernel
theorem dX12_stored__31 : decode cX12_stored_ 31 = .ok (.invokevirtual 430, 3) := by decide +kernel
theorem dX12_stored__34 : decode cX12_stored_ 34 = .ok (.ireturn, 1) := by decide +kernel
theorem dX12_shown_0 : decode cX12_shown 0 = .ok (.iload_n 1, 1) := by decide +kernel
theorem dX12_shown_1 : decode cX12_shown 1 = .ok (.invokestatic 308, 3) := by decide +kernel
theorem dX12_shown_4 : decode cX12_shown 4 = .ok (.ifCond .eq 31, 3) := by decide +kernel
theorem dX12_shown_7 : decode cX12_shown 7 = .ok (.iload_n 2, 1) := by decide +kernel
theorem dX12_shown_8 : decode cX12_shown 8 = .ok (.i2l, 1) := by decide +kernel
theorem dX12_shown_9 : decode cX12_shown 9 = .ok (.lconst 0, 1) := by decide +kernel
theorem dX12_shown_10 : decode cX12_shown 10 = .ok (.aload_n 0, 1) := by decide +kernel
theorem dX12_shown_11 : decode cX12_shown 11 = .ok (.getfield 532, 3) := by decide +kernel
theorem dX12_shown_14 : decode cX12_shown 14 = .ok (.iconst 1, 1) := by decide +kernel
theorem dX12_shown_15 : decode cX12_shown 15 = .ok (.isub, 1) := by decide +kernel
theorem dX12_shown_16 : decode cX12_shown 16 = .ok (.i2l, 1) := by decide +kernel
theorem dX12_shown_17 : decode cX12_shown 17 = .ok (.invokestatic 287, 3) := by decide +kernel
theorem dX12_shown_20 : decode cX12_shown 20 = .ok (.ifCond .eq 15, 3) := by decide +kernel
theorem dX12_shown_23 : decode cX12_shown 23 = .ok (.iload_n 3, 1) := by decide +kernel
theorem dX12_shown_24 : decode cX12_shown 24 = .ok (.i2l, 1) := by decide +kernel
theorem dX12_shown_25 : decode cX12_shown 25 = .ok (.lconst 0, 1) := by decide +kernel
theorem dX12_shown_26 : decode cX12_shown 26 = .ok (.ldc2_w 278, 3) := by decide +kernel
theorem dX12_shown_29 : decode cX12_shown 29 = .ok (.invokestatic 287, 3) := by decide +kernel
theorem dX12_shown_32 : decode cX12_shown 32 = .ok (.ifCond .ne 6, 3) := by decide +kernel
theorem dX12_shown_35 : decode cX12_shown 35 = .ok (.bipush (-2), 2) := by decide +kernel
theorem dX12_shown_37 : decode cX12_shown 37 = .ok (.ireturn, 1) := by decide +kernel
theorem dX12_shown_38 : decode cX12_shown 38 = .ok (.sipush 3000, 3) := by decide +kernel
theorem dX12_shown_41 : decode cX12_shown 41 = .ok (.iload_n 1, 1) := by decide +kernel
theorem dX12_shown_42 : decode cX12_shown 42 = .ok (.imul, 1) := by decide +kernel
theorem dX12_shown_43 : decode cX12_shown 43 = .ok (.iload_n 2, 1) := by decide +kernel
theorem dX12_shown_44 : decode cX12_shown 44 = .ok (.iadd, 1) := by decide +kernel
theorem dX12_shown_45 : decode cX12_shown 45 = .ok (.istore 4, 2) := by decide +kernel
theorem dX12_shown_47 : decode cX12_shown 47 = .ok (.iload_n 3, 1) := by decide +kernel
theorem dX12_shown_48 : decode cX12_shown 48 = .ok (.ifCond .ne 21, 3) := by decide +kernel
theorem dX12_shown_51 : decode cX12_shown 51 = .ok (.aload_n 0, 1) := by decide +kernel
theorem dX12_shown_52 : decode cX12_shown 52 = .ok (.getfield 224, 3) := by decide +kernel
theorem dX12_shown_55 : decode cX12_shown 55 = .ok (.iload 4, 2) := by decide +kernel
theorem dX12_shown_57 : decode cX12_shown 57 = .ok (.baload, 1) := by decide +kernel
theorem dX12_shown_58 : decode cX12_shown 58 = .ok (.ifCond .eq 7, 3) := by decide +kernel
theorem dX12_shown_61 : decode cX12_shown 61 = .ok (.iconst 1, 1) := by decide +kernel
theorem dX12_shown_62 : decode cX12_shown 62 = .ok (.goto 29, 3) := by decide +kernel
theorem dX12_shown_65 : decode cX12_shown 65 = .ok (.iconst 0, 1) := by decide +kernel
theorem dX12_shown_66 : decode cX12_shown 66 = .ok (.goto 25, 3) := by decide +kernel
theorem dX12_shown_69 : decode cX12_shown 69 = .ok (.iload_n 3, 1) := by decide +kernel
theorem dX12_shown_70 : decode cX12_shown 70 = .ok (.iconst 1, 1) := by decide +kernel
theorem dX12_shown_71 : decode cX12_shown 71 = .ok (.if_icmp .ne 13, 3) := by decide +kernel
theorem dX12_shown_74 : decode cX12_shown 74 = .ok (.aload_n 0, 1) := by decide +kernel
theorem dX12_shown_75 : decode cX12_shown 75 = .ok (.getfield 242, 3) := by decide +kernel
theorem dX12_shown_78 : decode cX12_shown 78 = .ok (.iload 4, 2) := by decide +kernel
theorem dX12_shown_80 : decode cX12_shown 80 = .ok (.iaload, 1) := by decide +kernel
theorem dX12_shown_81 : decode cX12_shown 81 = .ok (.goto 10, 3) := by decide +kernel
theorem dX12_shown_84 : decode cX12_shown 84 = .ok (.aload_n 0, 1) := by decide +kernel
theorem dX12_shown_85 : decode cX12_shown 85 = .ok (.getfield 245, 3) := by decide +kernel
theorem dX12_shown_88 : decode cX12_shown 88 = .ok (.iload 4, 2) := by decide +kernel
theorem dX12_shown_90 : decode cX12_shown 90 = .ok (.iaload, 1) := by decide +kernel
theorem dX12_shown_91 : decode cX12_shown 91 = .ok (.ireturn, 1) := by decide +kernel
theorem dX12_region__0 : decode cX12_region_ 0 = .ok (.iload_n 1, 1) := by decide +kernel
theorem dX12_region__1 : decode cX12_region_ 1 = .ok (.i2l, 1) := by decide +kernel
theorem dX12_region__2 : decode cX12_region_ 2 = .ok (.lconst 0, 1) := by decide +kernel
theorem dX12_region__3 : decode cX12_region_ 3 = .ok (.aload_n 0, 1) := by decide +kernel
theorem dX12_region__4 : decode cX12_region_ 4 = .ok (.getfield 532, 3) := by decide +kernel
theorem dX12_region__7 : decode cX12_region_ 7 = .ok (.iconst 1, 1) := by decide +kernel
theorem dX12_region__8 : decode cX12_region_ 8 = .ok (.isub, 1) := by decide +kernel
theorem dX12_region__9 : decode cX12_region_ 9 = .ok (.i2l, 1) := by decide +kernel
theorem dX12_region__10 : decode cX12_region_ 10 = .ok (.invokestatic 287, 3) := by decide +kernel
theorem dX12_region__13 : decode cX12_region_ 13 = .ok (.ifCond .eq 13, 3) := by decide +kernel
theorem dX12_region__16 : decode cX12_region_ 16 = .ok (.iload_n 2, 1) := by decide +kernel
theorem dX12_region__17 : decode cX12_region_ 17 = .ok (.i2l, 1) := by decide +kernel
theorem dX12_region__18 : decode cX12_region_ 18 = .ok (.lconst 0, 1) := by decide +kernel
theorem dX12_region__19 : decode cX12_region_ 19 = .ok (.lconst 1, 1) := by decide +kernel
theorem dX12_region__20 : decode cX12_region_ 20 = .ok (.invokestatic 287, 3) := by decide +kernel
theorem dX12_region__23 : decode cX12_region_ 23 = .ok (.ifCond .ne 6, 3) := by decide +kernel
theorem dX12_region__26 : decode cX12_region_ 26 = .ok (.bipush (-2), 2) := by decide +kernel
theorem dX12_region__28 : decode cX12_region_ 28 = .ok (.ireturn, 1) := by decide +kernel
theorem dX12_region__29 : decode cX12_region_ 29 = .ok (.iload_n 2, 1) := by decide +kernel
theorem dX12_region__30 : decode cX12_region_ 30 = .ok (.ifCond .ne 12, 3) := by decide +kernel
theorem dX12_region__33 : decode cX12_region_ 33 = .ok (.aload_n 0, 1) := by decide +kernel
theorem dX12_region__34 : decode cX12_region_ 34 = .ok (.getfield 269, 3) := by decide +kernel
theorem dX12_region__37 : decode cX12_region_ 37 = .ok (.iload_n 1, 1) := by decide +kernel
theorem dX12_region__38 : decode cX12_region_ 38 = .ok (.iaload, 1) := by decide +kernel
theorem dX12_region__39 : decode cX12_region_ 39 = .ok (.goto 9, 3) := by decide +kernel
theorem dX12_region__42 : decode cX12_region_ 42 = .ok (.aload_n 0, 1) := by decide +kernel
theorem dX12_region__43 : decode cX12_region_ 43 = .ok (.getfield 272, 3) := by decide +kernel
theorem dX12_region__46 : decode cX12_region_ 46 = .ok (.iload_n 1, 1) := by decide +kernel
theorem dX12_region__47 : decode cX12_region_ 47 = .ok (.iaload, 1) := by decide +kernel
theorem dX12_region__48 : decode cX12_region_ 48 = .ok (.ireturn, 1) := by decide +kernel
theorem dX12_alarm__0 : decode cX12_alarm_ 0 = .ok (.iload_n 1, 1) := by decide +kernel
theorem dX12_alarm__1 : decode cX12_alarm_ 1 = .ok (.invokestatic 308, 3) := by decide +kernel
theorem dX12_alarm__4 : decode cX12_alarm_ 4 = .ok (.ifCond .eq 33, 3) := by decide +kernel
theorem dX12_alarm__7 : decode cX12_alarm_ 7 = .ok (.iload_n 2, 1) := by decide +kernel
theorem dX12_alarm__8 : decode cX12_alarm_ 8 = .ok (.i2l, 1) := by decide +kernel
theorem dX12_alarm__9 : decode cX12_alarm_ 9 = .ok (.lconst 0, 1) := by decide +kernel
theorem dX12_alarm__10 : decode cX12_alarm_ 10 = .ok (.aload_n 0, 1) := by decide +kernel
theorem dX12_alarm__11 : decode cX12_alarm_ 11 = .ok (.getfield 248, 3) := by decide +kernel
theorem dX12_alarm__14 : decode cX12_alarm_ 14 = .ok (.iload_n 1, 1) := by decide +kernel
theorem dX12_alarm__15 : decode cX12_alarm_ 15 = .ok (.iaload, 1) := by decide +kernel
theorem dX12_alarm__16 : decode cX12_alarm_ 16 = .ok (.iconst 1, 1) := by decide +kernel
theorem dX12_alarm__17 : decode cX12_alarm_ 17 = .ok (.isub, 1) := by decide +kernel
theorem dX12_alarm__18 : decode cX12_alarm_ 18 = .ok (.i2l, 1) := by decide +kernel
theorem dX12_alarm__19 : decode cX12_alarm_ 19 = .ok (.invokestatic 287, 3) := by decide +kernel
theorem dX12_alarm__22 : decode cX12_alarm_ 22 = .ok (.ifCond .eq 15, 3) := by decide +kernel
theorem dX12_alarm__25 : decode cX12_alarm_ 25 = .ok (.iload_n 3, 1) := by decide +kernel
theorem dX12_alarm__26 : decode cX12_alarm_ 26 = .ok (.i2l, 1) := by decide +kernel
theorem dX12_alarm__27 : decode cX12_alarm_ 27 = .ok (.lconst 0, 1) := by decide +kernel
theorem dX12_alarm__28 : decode cX12_alarm_ 28 = .ok (.ldc2_w 278, 3) := by decide +kernel
theorem dX12_alarm__31 : decode cX12_alarm_ 31 = .ok (.invokestatic 287, 3) := by decide +kernel
theorem dX12_alarm__34 : decode cX12_alarm_ 34 = .ok (.ifCond .ne 6, 3) := by decide +kernel
theorem dX12_alarm__37 : decode cX12_alarm_ 37 = .ok (.bipush (-2), 2) := by decide +kernel
theorem dX12_alarm__39 : decode cX12_alarm_ 39 = .ok (.ireturn, 1) := by decide +kernel
theorem dX12_alarm__40 : decode cX12_alarm_ 40 = .ok (.sipush 900, 3) := by decide +kernel
theorem dX12_alarm__43 : decode cX12_alarm_ 43 = .ok (.iload_n 1, 1) := by decide +kernel
theorem dX12_alarm__44 : decode cX12_alarm_ 44 = .ok (.imul, 1) := by decide +kernel
theorem dX12_alarm__45 : decode cX12_alarm_ 45 = .ok (.iload_n 2, 1) := by decide +kernel
theorem dX12_alarm__46 : decode cX12_alarm_ 46 = .ok (.iadd, 1) := by decide +kernel
theorem dX12_alarm__47 : decode cX12_alarm_ 47 = .ok (.istore 4, 2) := by decide +kernel
theorem dX12_alarm__49 : decode cX12_alarm_ 49 = .ok (.iload_n 3, 1) := by decide +kernel
theorem dX12_alarm__50 : decode cX12_alarm_ 50 = .ok (.ifCond .ne 13, 3) := by decide +kernel
theorem dX12_alarm__53 : decode cX12_alarm_ 53 = .ok (.aload_n 0, 1) := by decide +kernel
theorem dX12_alarm__54 : decode cX12_alarm_ 54 = .ok (.getfield 251, 3) := by decide +kernel
theorem dX12_alarm__57 : decode cX12_alarm_ 57 = .ok (.iload 4, 2) := by decide +kernel
theorem dX12_alarm__59 : decode cX12_alarm_ 59 = .ok (.iaload, 1) := by decide +kernel
theorem dX12_alarm__60 : decode cX12_alarm_ 60 = .ok (.goto 25, 3) := by decide +kernel
theorem dX12_alarm__63 : decode cX12_alarm_ 63 = .ok (.iload_n 3, 1) := by decide +kernel
theorem dX12_alarm__64 : decode cX12_alarm_ 64 = .ok (.iconst 1, 1) := by decide +kernel
theorem dX12_alarm__65 : decode cX12_alarm_ 65 = .ok (.if_icmp .ne 13, 3) := by decide +kernel
theorem dX12_alarm__68 : decode cX12_alarm_ 68 = .ok (.aload_n 0, 1) := by decide +kernel
theorem dX12_alarm__69 : decode cX12_alarm_ 69 = .ok (.getfield 254, 3) := by decide +kernel
theorem dX12_alarm__72 : decode cX12_alarm_ 72 = .ok (.iload 4, 2) := by decide +kernel
theorem dX12_alarm__74 : decode cX12_alarm_ 74 = .ok (.iaload, 1) := by decide +kernel
theorem dX12_alarm__75 : decode cX12_alarm_ 75 = .ok (.goto 10, 3) := by decide +kernel
theorem dX12_alarm__78 : decode cX12_alarm_ 78 = .ok (.aload_n 0, 1) := by decide +kernel
theorem dX12_alarm__79 : decode cX12_alarm_ 79 = .ok (.getfield 257, 3) := by decide +kernel
theorem dX12_alarm__82 : decode cX12_alarm_ 82 = .ok (.iload 4, 2) := by decide +kernel
theorem dX12_alarm__84 : decode cX12_alarm_ 84 = .ok (.iaload, 1) := by decide +kernel
theorem dX12_alarm__85 : decode cX12_alarm_ 85 = .ok (.ireturn, 1) := by decide +kernel
theorem dX12_faults_0 : decode cX12_faults 0 = .ok (.iload_n 1, 1) := by decide +kernel
theorem dX12_faults_1 : decode cX12_faults 1 = .ok (.i2l, 1) := by decide +kernel
theorem dX12_faults_2 : decode cX12_faults 2 = .ok (.lconst 0, 1) := by decide +kernel
theorem dX12_faults_3 : decode cX12_faults 3 = .ok (.ldc2_w 481, 3) := by decide +kernel
theorem dX12_faults_6 : decode cX12_faults 6 = .ok (.invokestatic 287, 3) := by decide +kernel
theorem dX12_faults_9 : decode cX12_faults 9 = .ok (.ifCond .eq 12, 3) := by decide +kernel
theorem dX12_faults_12 : decode cX12_faults 12 = .ok (.aload_n 0, 1) := by decide +kernel
theorem dX12_faults_13 : decode cX12_faults 13 = .ok (.getfield 194, 3) := by decide +kernel
theorem dX12_faults_16 : decode cX12_faults 16 = .ok (.iload_n 1, 1) := by decide +kernel
theorem dX12_faults_17 : decode cX12_faults 17 = .ok (.iaload, 1) := by decide +kernel
theorem dX12_faults_18 : decode cX12_faults 18 = .ok (.goto 5, 3) := by decide +kernel
theorem dX12_faults_21 : decode cX12_faults 21 = .ok (.bipush (-2), 2) := by decide +kernel
theorem dX12_faults_23 : decode cX12_faults 23 = .ok (.ireturn, 1) := by decide +kernel
theorem dX12_told_0 : decode cX12_told 0 = .ok (.iload_n 1, 1) := by decide +kernel
theorem dX12_told_1 : decode cX12_told 1 = .ok (.tableswitch 109 0 8 #[51, 56, 61, 66, 71, 76, 81, 99, 104], 51) := by decide +kernel
theorem dX12_told_52 : decode cX12_told 52 = .ok (.aload_n 0, 1) := by decide +kernel
theorem dX12_told_53 : decode cX12_told 53 = .ok (.getfield 314, 3) := by decide +kernel
theorem dX12_told_56 : decode cX12_told 56 = .ok (.ireturn, 1) := by decide +kernel
theorem dX12_told_57 : decode cX12_told 57 = .ok (.aload_n 0, 1) := by decide +kernel
theorem dX12_told_58 : decode cX12_told 58 = .ok (.getfield 437, 3) := by decide +kernel
theorem dX12_told_61 : decode cX12_told 61 = .ok (.ireturn, 1) := by decide +kernel
theorem dX12_told_62 : decode cX12_told 62 = .ok (.aload_n 0, 1) := by decide +kernel
theorem dX12_told_63 : decode cX12_told 63 = .ok (.getfield 483, 3) := by decide +kernel
theorem dX12_told_66 : decode cX12_told 66 = .ok (.ireturn, 1) := by decide +kernel
theorem dX12_told_67 : decode cX12_told 67 = .ok (.aload_n 0, 1) := by decide +kernel
theorem dX12_told_68 : decode cX12_told 68 = .ok (.getfield 510, 3) := by decide +kernel
theorem dX12_told_71 : decode cX12_told 71 = .ok (.ireturn, 1) := by decide +kernel
theorem dX12_told_72 : decode cX12_told 72 = .ok (.aload_n 0, 1) := by decide +kernel
theorem dX12_told_73 : decode cX12_told 73 = .ok (.getfield 519, 3) := by decide +kernel
theorem dX12_told_76 : decode cX12_told 76 = .ok (.ireturn, 1) := by decide +kernel
theorem dX12_told_77 : decode cX12_told 77 = .ok (.aload_n 0, 1) := by decide +kernel
theorem dX12_told_78 : decode cX12_told 78 = .ok (.getfield 197, 3) := by decide +kernel
theorem dX12_told_81 : decode cX12_told 81 = .ok (.ireturn, 1) := by decide +kernel
theorem dX12_told_82 : decode cX12_told 82 = .ok (.aload_n 0, 1) := by decide +kernel
theorem dX12_told_83 : decode cX12_told 83 = .ok (.getfield 194, 3) := by decide +kernel
theorem dX12_told_86 : decode cX12_told 86 = .ok (.iconst 0, 1) := by decide +kernel
theorem dX12_told_87 : decode cX12_told 87 = .ok (.iaload, 1) := by decide +kernel
theorem dX12_told_88 : decode cX12_told 88 = .ok (.ifCond .ne 7, 3) := by decide +kernel
theorem dX12_told_91 : decode cX12_told 91 = .ok (.iconst (-1), 1) := by decide +kernel
theorem dX12_told_92 : decode cX12_told 92 = .ok (.goto 7, 3) := by decide +kernel
theorem dX12_told_95 : decode cX12_told 95 = .ok (.aload_n 0, 1) := by decide +kernel
theorem dX12_told_96 : decode cX12_told 96 = .ok (.getfield 538, 3) := by decide +kernel
theorem dX12_told_99 : decode cX12_told 99 = .ok (.ireturn, 1) := by decide +kernel
theorem dX12_told_100 : decode cX12_told 100 = .ok (.aload_n 0, 1) := by decide +kernel
theorem dX12_told_101 : decode cX12_told 101 = .ok (.getfield 532, 3) := by decide +kernel
theorem dX12_told_104 : decode cX12_told 104 = .ok (.ireturn, 1) := by decide +kernel
theorem dX12_told_105 : decode cX12_told 105 = .ok (.aload_n 0, 1) := by decide +kernel
theorem dX12_told_106 : decode cX12_told 106 = .ok (.getfield 364, 3) := by decide +kernel
theorem dX12_told_109 : decode cX12_told 109 = .ok (.ireturn, 1) := by decide +kernel
theorem dX12_told_110 : decode cX12_told 110 = .ok (.iload_n 1, 1) := by decide +kernel
theorem dX12_told_111 : decode cX12_told 111 = .ok (.i2l, 1) := by decide +kernel
theorem dX12_told_112 : decode cX12_told 112 = .ok (.ldc2_w 603, 3) := by decide +kernel
theorem dX12_told_115 : decode cX12_told 115 = .ok (.ldc2_w 605, 3) := by decide +kernel
theorem dX12_told_118 : decode cX12_told 118 = .ok (.invokestatic 287, 3) := by decide +kernel
theorem dX12_told_121 : decode cX12_told 121 = .ok (.ifCond .eq 15, 3) := by decide +kernel
theorem dX12_told_124 : decode cX12_told 124 = .ok (.aload_n 0, 1) := by decide +kernel
theorem dX12_told_125 : decode cX12_told 125 = .ok (.getfield 248, 3) := by decide +kernel
theorem dX12_told_128 : decode cX12_told 128 = .ok (.iload_n 1, 1) := by decide +kernel
theorem dX12_told_129 : decode cX12_told 129 = .ok (.bipush 9, 2) := by decide +kernel
theorem dX12_told_131 : decode cX12_told 131 = .ok (.isub, 1) := by decide +kernel
theorem dX12_told_132 : decode cX12_told 132 = .ok (.iaload, 1) := by decide +kernel
theorem dX12_told_133 : decode cX12_told 133 = .ok (.goto 5, 3) := by decide +kernel
theorem dX12_told_136 : decode cX12_told 136 = .ok (.bipush (-2), 2) := by decide +kernel
theorem dX12_told_138 : decode cX12_told 138 = .ok (.ireturn, 1) := by decide +kernel
theorem dJ9_floorMod_f86c9_0 : decode cJ9_floorMod_f86c9 0 = .ok (.lload_n 0, 1) := by decide +kernel
theorem dJ9_floorMod_f86c9_1 : decode cJ9_floorMod_f86c9 1 = .ok (.lload_n 2, 1) := by decide +kernel
theorem dJ9_floorMod_f86c9_2 : decode cJ9_floorMod_f86c9 2 = .ok (.lrem, 1) := by decide +kernel
