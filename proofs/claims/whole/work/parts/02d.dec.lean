theorem dX8_cuts_92 : decode cX8_cuts 92 = .ok (.istore 4, 2) := by decide +kernel
theorem dX8_cuts_94 : decode cX8_cuts 94 = .ok (.iload 7, 2) := by decide +kernel
theorem dX8_cuts_96 : decode cX8_cuts 96 = .ok (.iload 5, 2) := by decide +kernel
theorem dX8_cuts_98 : decode cX8_cuts 98 = .ok (.if_icmp .ge 8, 3) := by decide +kernel
theorem dX8_cuts_101 : decode cX8_cuts 101 = .ok (.iload 7, 2) := by decide +kernel
theorem dX8_cuts_103 : decode cX8_cuts 103 = .ok (.goto 5, 3) := by decide +kernel
theorem dX8_cuts_106 : decode cX8_cuts 106 = .ok (.iload 5, 2) := by decide +kernel
theorem dX8_cuts_108 : decode cX8_cuts 108 = .ok (.istore 5, 2) := by decide +kernel
theorem dX8_cuts_110 : decode cX8_cuts 110 = .ok (.iinc 6 1, 3) := by decide +kernel
theorem dX8_cuts_113 : decode cX8_cuts 113 = .ok (.goto (-60), 3) := by decide +kernel
theorem dX8_cuts_116 : decode cX8_cuts 116 = .ok (.iload_n 3, 1) := by decide +kernel
theorem dX8_cuts_117 : decode cX8_cuts 117 = .ok (.ifCond .ne 8, 3) := by decide +kernel
theorem dX8_cuts_120 : decode cX8_cuts 120 = .ok (.iload 5, 2) := by decide +kernel
theorem dX8_cuts_122 : decode cX8_cuts 122 = .ok (.goto 5, 3) := by decide +kernel
theorem dX8_cuts_125 : decode cX8_cuts 125 = .ok (.iload 4, 2) := by decide +kernel
theorem dX8_cuts_127 : decode cX8_cuts 127 = .ok (.ireturn, 1) := by decide +kernel
theorem dX8_bestHaul_0 : decode cX8_bestHaul 0 = .ok (.iconst 0, 1) := by decide +kernel
theorem dX8_bestHaul_1 : decode cX8_bestHaul 1 = .ok (.istore_n 1, 1) := by decide +kernel
theorem dX8_bestHaul_2 : decode cX8_bestHaul 2 = .ok (.aload_n 0, 1) := by decide +kernel
theorem dX8_bestHaul_3 : decode cX8_bestHaul 3 = .ok (.iconst 0, 1) := by decide +kernel
theorem dX8_bestHaul_4 : decode cX8_bestHaul 4 = .ok (.putfield 216, 3) := by decide +kernel
theorem dX8_bestHaul_7 : decode cX8_bestHaul 7 = .ok (.iconst 0, 1) := by decide +kernel
theorem dX8_bestHaul_8 : decode cX8_bestHaul 8 = .ok (.istore_n 2, 1) := by decide +kernel
theorem dX8_bestHaul_9 : decode cX8_bestHaul 9 = .ok (.aload_n 0, 1) := by decide +kernel
theorem dX8_bestHaul_10 : decode cX8_bestHaul 10 = .ok (.getfield 30, 3) := by decide +kernel
theorem dX8_bestHaul_13 : decode cX8_bestHaul 13 = .ok (.iconst 0, 1) := by decide +kernel
theorem dX8_bestHaul_14 : decode cX8_bestHaul 14 = .ok (.iconst (-1), 1) := by decide +kernel
theorem dX8_bestHaul_15 : decode cX8_bestHaul 15 = .ok (.iastore, 1) := by decide +kernel
theorem dX8_bestHaul_16 : decode cX8_bestHaul 16 = .ok (.aload_n 0, 1) := by decide +kernel
theorem dX8_bestHaul_17 : decode cX8_bestHaul 17 = .ok (.getfield 33, 3) := by decide +kernel
theorem dX8_bestHaul_20 : decode cX8_bestHaul 20 = .ok (.iconst 0, 1) := by decide +kernel
theorem dX8_bestHaul_21 : decode cX8_bestHaul 21 = .ok (.aload_n 0, 1) := by decide +kernel
theorem dX8_bestHaul_22 : decode cX8_bestHaul 22 = .ok (.getfield 7, 3) := by decide +kernel
theorem dX8_bestHaul_25 : decode cX8_bestHaul 25 = .ok (.bipush 14, 2) := by decide +kernel
theorem dX8_bestHaul_27 : decode cX8_bestHaul 27 = .ok (.iaload, 1) := by decide +kernel
theorem dX8_bestHaul_28 : decode cX8_bestHaul 28 = .ok (.iastore, 1) := by decide +kernel
theorem dX8_bestHaul_29 : decode cX8_bestHaul 29 = .ok (.aload_n 0, 1) := by decide +kernel
theorem dX8_bestHaul_30 : decode cX8_bestHaul 30 = .ok (.getfield 36, 3) := by decide +kernel
theorem dX8_bestHaul_33 : decode cX8_bestHaul 33 = .ok (.iconst 0, 1) := by decide +kernel
theorem dX8_bestHaul_34 : decode cX8_bestHaul 34 = .ok (.iconst 0, 1) := by decide +kernel
theorem dX8_bestHaul_35 : decode cX8_bestHaul 35 = .ok (.iastore, 1) := by decide +kernel
theorem dX8_bestHaul_36 : decode cX8_bestHaul 36 = .ok (.iload_n 2, 1) := by decide +kernel
theorem dX8_bestHaul_37 : decode cX8_bestHaul 37 = .ok (.ifCond .lt 235, 3) := by decide +kernel
theorem dX8_bestHaul_40 : decode cX8_bestHaul 40 = .ok (.iconst 0, 1) := by decide +kernel
theorem dX8_bestHaul_41 : decode cX8_bestHaul 41 = .ok (.istore_n 3, 1) := by decide +kernel
theorem dX8_bestHaul_42 : decode cX8_bestHaul 42 = .ok (.iconst 0, 1) := by decide +kernel
theorem dX8_bestHaul_43 : decode cX8_bestHaul 43 = .ok (.istore 4, 2) := by decide +kernel
theorem dX8_bestHaul_45 : decode cX8_bestHaul 45 = .ok (.iload 4, 2) := by decide +kernel
theorem dX8_bestHaul_47 : decode cX8_bestHaul 47 = .ok (.iload_n 2, 1) := by decide +kernel
theorem dX8_bestHaul_48 : decode cX8_bestHaul 48 = .ok (.if_icmp .ge 21, 3) := by decide +kernel
theorem dX8_bestHaul_51 : decode cX8_bestHaul 51 = .ok (.iload_n 3, 1) := by decide +kernel
theorem dX8_bestHaul_52 : decode cX8_bestHaul 52 = .ok (.iconst 1, 1) := by decide +kernel
theorem dX8_bestHaul_53 : decode cX8_bestHaul 53 = .ok (.aload_n 0, 1) := by decide +kernel
theorem dX8_bestHaul_54 : decode cX8_bestHaul 54 = .ok (.getfield 30, 3) := by decide +kernel
theorem dX8_bestHaul_57 : decode cX8_bestHaul 57 = .ok (.iload 4, 2) := by decide +kernel
theorem dX8_bestHaul_59 : decode cX8_bestHaul 59 = .ok (.iaload, 1) := by decide +kernel
theorem dX8_bestHaul_60 : decode cX8_bestHaul 60 = .ok (.ishl, 1) := by decide +kernel
theorem dX8_bestHaul_61 : decode cX8_bestHaul 61 = .ok (.ior, 1) := by decide +kernel
theorem dX8_bestHaul_62 : decode cX8_bestHaul 62 = .ok (.istore_n 3, 1) := by decide +kernel
theorem dX8_bestHaul_63 : decode cX8_bestHaul 63 = .ok (.iinc 4 1, 3) := by decide +kernel
theorem dX8_bestHaul_66 : decode cX8_bestHaul 66 = .ok (.goto (-21), 3) := by decide +kernel
theorem dX8_bestHaul_69 : decode cX8_bestHaul 69 = .ok (.aload_n 0, 1) := by decide +kernel
theorem dX8_bestHaul_70 : decode cX8_bestHaul 70 = .ok (.getfield 30, 3) := by decide +kernel
theorem dX8_bestHaul_73 : decode cX8_bestHaul 73 = .ok (.iload_n 2, 1) := by decide +kernel
theorem dX8_bestHaul_74 : decode cX8_bestHaul 74 = .ok (.iaload, 1) := by decide +kernel
theorem dX8_bestHaul_75 : decode cX8_bestHaul 75 = .ok (.iconst 1, 1) := by decide +kernel
theorem dX8_bestHaul_76 : decode cX8_bestHaul 76 = .ok (.iadd, 1) := by decide +kernel
theorem dX8_bestHaul_77 : decode cX8_bestHaul 77 = .ok (.istore 4, 2) := by decide +kernel
theorem dX8_bestHaul_79 : decode cX8_bestHaul 79 = .ok (.iload 4, 2) := by decide +kernel
theorem dX8_bestHaul_81 : decode cX8_bestHaul 81 = .ok (.aload_n 0, 1) := by decide +kernel
theorem dX8_bestHaul_82 : decode cX8_bestHaul 82 = .ok (.getfield 7, 3) := by decide +kernel
theorem dX8_bestHaul_85 : decode cX8_bestHaul 85 = .ok (.iconst 0, 1) := by decide +kernel
theorem dX8_bestHaul_86 : decode cX8_bestHaul 86 = .ok (.iaload, 1) := by decide +kernel
theorem dX8_bestHaul_87 : decode cX8_bestHaul 87 = .ok (.if_icmp .ge 43, 3) := by decide +kernel
theorem dX8_bestHaul_90 : decode cX8_bestHaul 90 = .ok (.iload_n 3, 1) := by decide +kernel
theorem dX8_bestHaul_91 : decode cX8_bestHaul 91 = .ok (.iload 4, 2) := by decide +kernel
theorem dX8_bestHaul_93 : decode cX8_bestHaul 93 = .ok (.invokestatic 219, 3) := by decide +kernel
theorem dX8_bestHaul_96 : decode cX8_bestHaul 96 = .ok (.ifCond .ne 28, 3) := by decide +kernel
theorem dX8_bestHaul_99 : decode cX8_bestHaul 99 = .ok (.aload_n 0, 1) := by decide +kernel
theorem dX8_bestHaul_100 : decode cX8_bestHaul 100 = .ok (.iconst 0, 1) := by decide +kernel
theorem dX8_bestHaul_101 : decode cX8_bestHaul 101 = .ok (.iload 4, 2) := by decide +kernel
theorem dX8_bestHaul_103 : decode cX8_bestHaul 103 = .ok (.aload_n 0, 1) := by decide +kernel
theorem dX8_bestHaul_104 : decode cX8_bestHaul 104 = .ok (.getfield 7, 3) := by decide +kernel
theorem dX8_bestHaul_107 : decode cX8_bestHaul 107 = .ok (.bipush 17, 2) := by decide +kernel
theorem dX8_bestHaul_109 : decode cX8_bestHaul 109 = .ok (.iaload, 1) := by decide +kernel
theorem dX8_bestHaul_110 : decode cX8_bestHaul 110 = .ok (.iload_n 2, 1) := by decide +kernel
theorem dX8_bestHaul_111 : decode cX8_bestHaul 111 = .ok (.iadd, 1) := by decide +kernel
theorem dX8_bestHaul_112 : decode cX8_bestHaul 112 = .ok (.invokevirtual 191, 3) := by decide +kernel
theorem dX8_bestHaul_115 : decode cX8_bestHaul 115 = .ok (.aload_n 0, 1) := by decide +kernel
theorem dX8_bestHaul_116 : decode cX8_bestHaul 116 = .ok (.getfield 33, 3) := by decide +kernel
theorem dX8_bestHaul_119 : decode cX8_bestHaul 119 = .ok (.iload_n 2, 1) := by decide +kernel
theorem dX8_bestHaul_120 : decode cX8_bestHaul 120 = .ok (.iaload, 1) := by decide +kernel
theorem dX8_bestHaul_121 : decode cX8_bestHaul 121 = .ok (.if_icmp .le 9, 3) := by decide +kernel
theorem dX8_bestHaul_124 : decode cX8_bestHaul 124 = .ok (.iinc 4 1, 3) := by decide +kernel
theorem dX8_bestHaul_127 : decode cX8_bestHaul 127 = .ok (.goto (-48), 3) := by decide +kernel
theorem dX8_bestHaul_130 : decode cX8_bestHaul 130 = .ok (.aload_n 0, 1) := by decide +kernel
theorem dX8_bestHaul_131 : decode cX8_bestHaul 131 = .ok (.getfield 30, 3) := by decide +kernel
theorem dX8_bestHaul_134 : decode cX8_bestHaul 134 = .ok (.iload_n 2, 1) := by decide +kernel
theorem dX8_bestHaul_135 : decode cX8_bestHaul 135 = .ok (.iload 4, 2) := by decide +kernel
theorem dX8_bestHaul_137 : decode cX8_bestHaul 137 = .ok (.iastore, 1) := by decide +kernel
theorem dX8_bestHaul_138 : decode cX8_bestHaul 138 = .ok (.iload 4, 2) := by decide +kernel
theorem dX8_bestHaul_140 : decode cX8_bestHaul 140 = .ok (.aload_n 0, 1) := by decide +kernel
theorem dX8_bestHaul_141 : decode cX8_bestHaul 141 = .ok (.getfield 7, 3) := by decide +kernel
theorem dX8_bestHaul_144 : decode cX8_bestHaul 144 = .ok (.iconst 0, 1) := by decide +kernel
theorem dX8_bestHaul_145 : decode cX8_bestHaul 145 = .ok (.iaload, 1) := by decide +kernel
theorem dX8_bestHaul_146 : decode cX8_bestHaul 146 = .ok (.if_icmp .lt 9, 3) := by decide +kernel
theorem dX8_bestHaul_149 : decode cX8_bestHaul 149 = .ok (.iinc 2 (-1), 3) := by decide +kernel
theorem dX8_bestHaul_152 : decode cX8_bestHaul 152 = .ok (.goto 117, 3) := by decide +kernel
theorem dX8_bestHaul_155 : decode cX8_bestHaul 155 = .ok (.aload_n 0, 1) := by decide +kernel
theorem dX8_bestHaul_156 : decode cX8_bestHaul 156 = .ok (.getfield 33, 3) := by decide +kernel
theorem dX8_bestHaul_159 : decode cX8_bestHaul 159 = .ok (.iload_n 2, 1) := by decide +kernel
theorem dX8_bestHaul_160 : decode cX8_bestHaul 160 = .ok (.iconst 1, 1) := by decide +kernel
theorem dX8_bestHaul_161 : decode cX8_bestHaul 161 = .ok (.iadd, 1) := by decide +kernel
theorem dX8_bestHaul_162 : decode cX8_bestHaul 162 = .ok (.aload_n 0, 1) := by decide +kernel
theorem dX8_bestHaul_163 : decode cX8_bestHaul 163 = .ok (.getfield 33, 3) := by decide +kernel
theorem dX8_bestHaul_166 : decode cX8_bestHaul 166 = .ok (.iload_n 2, 1) := by decide +kernel
theorem dX8_bestHaul_167 : decode cX8_bestHaul 167 = .ok (.iaload, 1) := by decide +kernel
theorem dX8_bestHaul_168 : decode cX8_bestHaul 168 = .ok (.aload_n 0, 1) := by decide +kernel
theorem dX8_bestHaul_169 : decode cX8_bestHaul 169 = .ok (.iconst 0, 1) := by decide +kernel
theorem dX8_bestHaul_170 : decode cX8_bestHaul 170 = .ok (.iload 4, 2) := by decide +kernel
theorem dX8_bestHaul_172 : decode cX8_bestHaul 172 = .ok (.aload_n 0, 1) := by decide +kernel
theorem dX8_bestHaul_173 : decode cX8_bestHaul 173 = .ok (.getfield 7, 3) := by decide +kernel
theorem dX8_bestHaul_176 : decode cX8_bestHaul 176 = .ok (.bipush 17, 2) := by decide +kernel
theorem dX8_bestHaul_178 : decode cX8_bestHaul 178 = .ok (.iaload, 1) := by decide +kernel
theorem dX8_bestHaul_179 : decode cX8_bestHaul 179 = .ok (.iload_n 2, 1) := by decide +kernel
theorem dX8_bestHaul_180 : decode cX8_bestHaul 180 = .ok (.iadd, 1) := by decide +kernel
theorem dX8_bestHaul_181 : decode cX8_bestHaul 181 = .ok (.invokevirtual 191, 3) := by decide +kernel
theorem dX8_bestHaul_184 : decode cX8_bestHaul 184 = .ok (.isub, 1) := by decide +kernel
theorem dX8_bestHaul_185 : decode cX8_bestHaul 185 = .ok (.iastore, 1) := by decide +kernel
theorem dX8_bestHaul_186 : decode cX8_bestHaul 186 = .ok (.aload_n 0, 1) := by decide +kernel
theorem dX8_bestHaul_187 : decode cX8_bestHaul 187 = .ok (.getfield 36, 3) := by decide +kernel
theorem dX8_bestHaul_190 : decode cX8_bestHaul 190 = .ok (.iload_n 2, 1) := by decide +kernel
theorem dX8_bestHaul_191 : decode cX8_bestHaul 191 = .ok (.iconst 1, 1) := by decide +kernel
theorem dX8_bestHaul_192 : decode cX8_bestHaul 192 = .ok (.iadd, 1) := by decide +kernel
theorem dX8_bestHaul_193 : decode cX8_bestHaul 193 = .ok (.aload_n 0, 1) := by decide +kernel
theorem dX8_bestHaul_194 : decode cX8_bestHaul 194 = .ok (.getfield 36, 3) := by decide +kernel
theorem dX8_bestHaul_197 : decode cX8_bestHaul 197 = .ok (.iload_n 2, 1) := by decide +kernel
theorem dX8_bestHaul_198 : decode cX8_bestHaul 198 = .ok (.iaload, 1) := by decide +kernel
theorem dX8_bestHaul_199 : decode cX8_bestHaul 199 = .ok (.aload_n 0, 1) := by decide +kernel
theorem dX8_bestHaul_200 : decode cX8_bestHaul 200 = .ok (.iconst 0, 1) := by decide +kernel
theorem dX8_bestHaul_201 : decode cX8_bestHaul 201 = .ok (.iload 4, 2) := by decide +kernel
theorem dX8_bestHaul_203 : decode cX8_bestHaul 203 = .ok (.invokevirtual 194, 3) := by decide +kernel
theorem dX8_bestHaul_206 : decode cX8_bestHaul 206 = .ok (.iadd, 1) := by decide +kernel
theorem dX8_bestHaul_207 : decode cX8_bestHaul 207 = .ok (.iastore, 1) := by decide +kernel
theorem dX8_bestHaul_208 : decode cX8_bestHaul 208 = .ok (.iinc 2 1, 3) := by decide +kernel
theorem dX8_bestHaul_211 : decode cX8_bestHaul 211 = .ok (.aload_n 0, 1) := by decide +kernel
theorem dX8_bestHaul_212 : decode cX8_bestHaul 212 = .ok (.getfield 36, 3) := by decide +kernel
theorem dX8_bestHaul_215 : decode cX8_bestHaul 215 = .ok (.iload_n 2, 1) := by decide +kernel
theorem dX8_bestHaul_216 : decode cX8_bestHaul 216 = .ok (.iaload, 1) := by decide +kernel
theorem dX8_bestHaul_217 : decode cX8_bestHaul 217 = .ok (.iload_n 1, 1) := by decide +kernel
theorem dX8_bestHaul_218 : decode cX8_bestHaul 218 = .ok (.if_icmp .le 44, 3) := by decide +kernel
theorem dX8_bestHaul_221 : decode cX8_bestHaul 221 = .ok (.aload_n 0, 1) := by decide +kernel
theorem dX8_bestHaul_222 : decode cX8_bestHaul 222 = .ok (.getfield 36, 3) := by decide +kernel
theorem dX8_bestHaul_225 : decode cX8_bestHaul 225 = .ok (.iload_n 2, 1) := by decide +kernel
theorem dX8_bestHaul_226 : decode cX8_bestHaul 226 = .ok (.iaload, 1) := by decide +kernel
theorem dX8_bestHaul_227 : decode cX8_bestHaul 227 = .ok (.istore_n 1, 1) := by decide +kernel
theorem dX8_bestHaul_228 : decode cX8_bestHaul 228 = .ok (.aload_n 0, 1) := by decide +kernel
theorem dX8_bestHaul_229 : decode cX8_bestHaul 229 = .ok (.iload_n 2, 1) := by decide +kernel
theorem dX8_bestHaul_230 : decode cX8_bestHaul 230 = .ok (.putfield 216, 3) := by decide +kernel
theorem dX8_bestHaul_233 : decode cX8_bestHaul 233 = .ok (.iconst 0, 1) := by decide +kernel
theorem dX8_bestHaul_234 : decode cX8_bestHaul 234 = .ok (.istore 5, 2) := by decide +kernel
theorem dX8_bestHaul_236 : decode cX8_bestHaul 236 = .ok (.iload 5, 2) := by decide +kernel
theorem dX8_bestHaul_238 : decode cX8_bestHaul 238 = .ok (.iload_n 2, 1) := by decide +kernel
theorem dX8_bestHaul_239 : decode cX8_bestHaul 239 = .ok (.if_icmp .ge 23, 3) := by decide +kernel
theorem dX8_bestHaul_242 : decode cX8_bestHaul 242 = .ok (.aload_n 0, 1) := by decide +kernel
theorem dX8_bestHaul_243 : decode cX8_bestHaul 243 = .ok (.getfield 39, 3) := by decide +kernel
theorem dX8_bestHaul_246 : decode cX8_bestHaul 246 = .ok (.iload 5, 2) := by decide +kernel
theorem dX8_bestHaul_248 : decode cX8_bestHaul 248 = .ok (.aload_n 0, 1) := by decide +kernel
theorem dX8_bestHaul_249 : decode cX8_bestHaul 249 = .ok (.getfield 30, 3) := by decide +kernel
theorem dX8_bestHaul_252 : decode cX8_bestHaul 252 = .ok (.iload 5, 2) := by decide +kernel
theorem dX8_bestHaul_254 : decode cX8_bestHaul 254 = .ok (.iaload, 1) := by decide +kernel
theorem dX8_bestHaul_255 : decode cX8_bestHaul 255 = .ok (.iastore, 1) := by decide +kernel
theorem dX8_bestHaul_256 : decode cX8_bestHaul 256 = .ok (.iinc 5 1, 3) := by decide +kernel
theorem dX8_bestHaul_259 : decode cX8_bestHaul 259 = .ok (.goto (-23), 3) := by decide +kernel
theorem dX8_bestHaul_262 : decode cX8_bestHaul 262 = .ok (.aload_n 0, 1) := by decide +kernel
theorem dX8_bestHaul_263 : decode cX8_bestHaul 263 = .ok (.getfield 30, 3) := by decide +kernel
theorem dX8_bestHaul_266 : decode cX8_bestHaul 266 = .ok (.iload_n 2, 1) := by decide +kernel
theorem dX8_bestHaul_267 : decode cX8_bestHaul 267 = .ok (.iconst (-1), 1) := by decide +kernel
theorem dX8_bestHaul_268 : decode cX8_bestHaul 268 = .ok (.iastore, 1) := by decide +kernel
theorem dX8_bestHaul_269 : decode cX8_bestHaul 269 = .ok (.goto (-233), 3) := by decide +kernel
theorem dX8_bestHaul_272 : decode cX8_bestHaul 272 = .ok (.iload_n 1, 1) := by decide +kernel
theorem dX8_bestHaul_273 : decode cX8_bestHaul 273 = .ok (.ireturn, 1) := by decide +kernel
theorem dX8_row_0 : decode cX8_row 0 = .ok (.iload_n 1, 1) := by decide +kernel
theorem dX8_row_1 : decode cX8_row 1 = .ok (.bipush (-2), 2) := by decide +kernel
theorem dX8_row_3 : decode cX8_row 3 = .ok (.if_icmp .ge 10, 3) := by decide +kernel
theorem dX8_row_6 : decode cX8_row 6 = .ok (.aload_n 0, 1) := by decide +kernel
theorem dX8_row_7 : decode cX8_row 7 = .ok (.bipush (-10), 2) := by decide +kernel
theorem dX8_row_9 : decode cX8_row 9 = .ok (.invokevirtual 78, 3) := by decide +kernel
theorem dX8_row_12 : decode cX8_row 12 = .ok (.ireturn, 1) := by decide +kernel
theorem dX8_row_13 : decode cX8_row 13 = .ok (.aload_n 0, 1) := by decide +kernel
theorem dX8_row_14 : decode cX8_row 14 = .ok (.invokevirtual 222, 3) := by decide +kernel
theorem dX8_row_17 : decode cX8_row 17 = .ok (.istore_n 2, 1) := by decide +kernel
theorem dX8_row_18 : decode cX8_row 18 = .ok (.iload_n 1, 1) := by decide +kernel
theorem dX8_row_19 : decode cX8_row 19 = .ok (.bipush (-2), 2) := by decide +kernel
theorem dX8_row_21 : decode cX8_row 21 = .ok (.if_icmp .ne 7, 3) := by decide +kernel
theorem dX8_row_24 : decode cX8_row 24 = .ok (.iload_n 2, 1) := by decide +kernel
theorem dX8_row_25 : decode cX8_row 25 = .ok (.goto 34, 3) := by decide +kernel
theorem dX8_row_28 : decode cX8_row 28 = .ok (.iload_n 1, 1) := by decide +kernel
theorem dX8_row_29 : decode cX8_row 29 = .ok (.iconst (-1), 1) := by decide +kernel
theorem dX8_row_30 : decode cX8_row 30 = .ok (.if_icmp .ne 10, 3) := by decide +kernel
theorem dX8_row_33 : decode cX8_row 33 = .ok (.aload_n 0, 1) := by decide +kernel
theorem dX8_row_34 : decode cX8_row 34 = .ok (.getfield 216, 3) := by decide +kernel
theorem dX8_row_37 : decode cX8_row 37 = .ok (.goto 22, 3) := by decide +kernel
theorem dX8_row_40 : decode cX8_row 40 = .ok (.iload_n 1, 1) := by decide +kernel
theorem dX8_row_41 : decode cX8_row 41 = .ok (.aload_n 0, 1) := by decide +kernel
theorem dX8_row_42 : decode cX8_row 42 = .ok (.getfield 216, 3) := by decide +kernel
theorem dX8_row_45 : decode cX8_row 45 = .ok (.if_icmp .ge 12, 3) := by decide +kernel
theorem dX8_row_48 : decode cX8_row 48 = .ok (.aload_n 0, 1) := by decide +kernel
theorem dX8_row_49 : decode cX8_row 49 = .ok (.getfield 39, 3) := by decide +kernel
theorem dX8_row_52 : decode cX8_row 52 = .ok (.iload_n 1, 1) := by decide +kernel
theorem dX8_row_53 : decode cX8_row 53 = .ok (.iaload, 1) := by decide +kernel
theorem dX8_row_54 : decode cX8_row 54 = .ok (.goto 5, 3) := by decide +kernel
theorem dX8_row_57 : decode cX8_row 57 = .ok (.bipush (-5), 2) := by decide +kernel
theorem dX8_row_59 : decode cX8_row 59 = .ok (.ireturn, 1) := by decide +kernel
theorem dX8_came_0 : decode cX8_came 0 = .ok (.iload_n 1, 1) := by decide +kernel
theorem dX8_came_1 : decode cX8_came 1 = .ok (.i2l, 1) := by decide +kernel
theorem dX8_came_2 : decode cX8_came 2 = .ok (.lconst 1, 1) := by decide +kernel
theorem dX8_came_3 : decode cX8_came 3 = .ok (.ldc2_w 74, 3) := by decide +kernel
theorem dX8_came_6 : decode cX8_came 6 = .ok (.invokestatic 56, 3) := by decide +kernel
theorem dX8_came_9 : decode cX8_came 9 = .ok (.ifCond .eq 15, 3) := by decide +kernel
theorem dX8_came_12 : decode cX8_came 12 = .ok (.iload_n 2, 1) := by decide +kernel
theorem dX8_came_13 : decode cX8_came 13 = .ok (.i2l, 1) := by decide +kernel
theorem dX8_came_14 : decode cX8_came 14 = .ok (.lconst 0, 1) := by decide +kernel
theorem dX8_came_15 : decode cX8_came 15 = .ok (.ldc2_w 74, 3) := by decide +kernel
theorem dX8_came_18 : decode cX8_came 18 = .ok (.invokestatic 56, 3) := by decide +kernel
theorem dX8_came_21 : decode cX8_came 21 = .ok (.ifCond .ne 10, 3) := by decide +kernel
theorem dX8_came_24 : decode cX8_came 24 = .ok (.aload_n 0, 1) := by decide +kernel
theorem dX8_came_25 : decode cX8_came 25 = .ok (.bipush (-2), 2) := by decide +kernel
theorem dX8_came_27 : decode cX8_came 27 = .ok (.invokevirtual 78, 3) := by decide +kernel
theorem dX8_came_30 : decode cX8_came 30 = .ok (.ireturn, 1) := by decide +kernel
theorem dX8_came_31 : decode cX8_came 31 = .ok (.aload_n 0, 1) := by decide +kernel
theorem dX8_came_32 : decode cX8_came 32 = .ok (.getfield 7, 3) := by decide +kernel
theorem dX8_came_35 : decode cX8_came 35 = .ok (.bipush 18, 2) := by decide +kernel
theorem dX8_came_37 : decode cX8_came 37 = .ok (.iaload, 1) := by decide +kernel
theorem dX8_came_38 : decode cX8_came 38 = .ok (.bipush 6, 2) := by decide +kernel
theorem dX8_came_40 : decode cX8_came 40 = .ok (.if_icmp .ne 8, 3) := by decide +kernel
theorem dX8_came_43 : decode cX8_came 43 = .ok (.aload_n 0, 1) := by decide +kernel
theorem dX8_came_44 : decode cX8_came 44 = .ok (.invokevirtual 87, 3) := by decide +kernel
theorem dX8_came_47 : decode cX8_came 47 = .ok (.ireturn, 1) := by decide +kernel
theorem dX8_came_48 : decode cX8_came 48 = .ok (.aload_n 0, 1) := by decide +kernel
theorem dX8_came_49 : decode cX8_came 49 = .ok (.getfield 7, 3) := by decide +kernel
theorem dX8_came_52 : decode cX8_came 52 = .ok (.bipush 19, 2) := by decide +kernel
theorem dX8_came_54 : decode cX8_came 54 = .ok (.iconst 2, 1) := by decide +kernel
theorem dX8_came_55 : decode cX8_came 55 = .ok (.aload_n 0, 1) := by decide +kernel
theorem dX8_came_56 : decode cX8_came 56 = .ok (.getfield 7, 3) := by decide +kernel
theorem dX8_came_59 : decode cX8_came 59 = .ok (.bipush 18, 2) := by decide +kernel
theorem dX8_came_61 : decode cX8_came 61 = .ok (.iaload, 1) := by decide +kernel
theorem dX8_came_62 : decode cX8_came 62 = .ok (.imul, 1) := by decide +kernel
theorem dX8_came_63 : decode cX8_came 63 = .ok (.iadd, 1) := by decide +kernel
theorem dX8_came_64 : decode cX8_came 64 = .ok (.iload_n 1, 1) := by decide +kernel
theorem dX8_came_65 : decode cX8_came 65 = .ok (.iastore, 1) := by decide +kernel
theorem dX8_came_66 : decode cX8_came 66 = .ok (.aload_n 0, 1) := by decide +kernel
theorem dX8_came_67 : decode cX8_came 67 = .ok (.getfield 7, 3) := by decide +kernel
theorem dX8_came_70 : decode cX8_came 70 = .ok (.bipush 19, 2) := by decide +kernel
theorem dX8_came_72 : decode cX8_came 72 = .ok (.iconst 2, 1) := by decide +kernel
theorem dX8_came_73 : decode cX8_came 73 = .ok (.aload_n 0, 1) := by decide +kernel
theorem dX8_came_74 : decode cX8_came 74 = .ok (.getfield 7, 3) := by decide +kernel
theorem dX8_came_77 : decode cX8_came 77 = .ok (.bipush 18, 2) := by decide +kernel
theorem dX8_came_79 : decode cX8_came 79 = .ok (.iaload, 1) := by decide +kernel
theorem dX8_came_80 : decode cX8_came 80 = .ok (.imul, 1) := by decide +kernel
theorem dX8_came_81 : decode cX8_came 81 = .ok (.iadd, 1) := by decide +kernel
theorem dX8_came_82 : decode cX8_came 82 = .ok (.iconst 1, 1) := by decide +kernel
theorem dX8_came_83 : decode cX8_came 83 = .ok (.iadd, 1) := by decide +kernel
theorem dX8_came_84 : decode cX8_came 84 = .ok (.iload_n 2, 1) := by decide +kernel
theorem dX8_came_85 : decode cX8_came 85 = .ok (.iastore, 1) := by decide +kernel
theorem dX8_came_86 : decode cX8_came 86 = .ok (.aload_n 0, 1) := by decide +kernel
theorem dX8_came_87 : decode cX8_came 87 = .ok (.getfield 7, 3) := by decide +kernel
theorem dX8_came_90 : decode cX8_came 90 = .ok (.bipush 18, 2) := by decide +kernel
theorem dX8_came_92 : decode cX8_came 92 = .ok (.dup2, 1) := by decide +kernel
theorem dX8_came_93 : decode cX8_came 93 = .ok (.iaload, 1) := by decide +kernel
theorem dX8_came_94 : decode cX8_came 94 = .ok (.iconst 1, 1) := by decide +kernel
theorem dX8_came_95 : decode cX8_came 95 = .ok (.iadd, 1) := by decide +kernel
theorem dX8_came_96 : decode cX8_came 96 = .ok (.iastore, 1) := by decide +kernel
theorem dX8_came_97 : decode cX8_came 97 = .ok (.aload_n 0, 1) := by decide +kernel
theorem dX8_came_98 : decode cX8_came 98 = .ok (.getfield 7, 3) := by decide +kernel
theorem dX8_came_101 : decode cX8_came 101 = .ok (.bipush 18, 2) := by decide +kernel
theorem dX8_came_103 : decode cX8_came 103 = .ok (.iaload, 1) := by decide +kernel
theorem dX8_came_104 : decode cX8_came 104 = .ok (.ireturn, 1) := by decide +kernel
theorem dX8_fits_0 : decode cX8_fits 0 = .ok (.iconst 1, 1) := by decide +kernel
theorem dX8_fits_1 : decode cX8_fits 1 = .ok (.istore_n 2, 1) := by decide +kernel
theorem dX8_fits_2 : decode cX8_fits 2 = .ok (.iconst 0, 1) := by decide +kernel
theorem dX8_fits_3 : decode cX8_fits 3 = .ok (.istore_n 3, 1) := by decide +kernel
theorem dX8_fits_4 : decode cX8_fits 4 = .ok (.iload_n 3, 1) := by decide +kernel
theorem dX8_fits_5 : decode cX8_fits 5 = .ok (.aload_n 0, 1) := by decide +kernel
theorem dX8_fits_6 : decode cX8_fits 6 = .ok (.getfield 7, 3) := by decide +kernel
theorem dX8_fits_9 : decode cX8_fits 9 = .ok (.bipush 18, 2) := by decide +kernel
theorem dX8_fits_11 : decode cX8_fits 11 = .ok (.iaload, 1) := by decide +kernel
theorem dX8_fits_12 : decode cX8_fits 12 = .ok (.if_icmp .ge 50, 3) := by decide +kernel
theorem dX8_fits_15 : decode cX8_fits 15 = .ok (.iload_n 2, 1) := by decide +kernel
theorem dX8_fits_16 : decode cX8_fits 16 = .ok (.ifCond .eq 38, 3) := by decide +kernel
theorem dX8_fits_19 : decode cX8_fits 19 = .ok (.aload_n 0, 1) := by decide +kernel
theorem dX8_fits_20 : decode cX8_fits 20 = .ok (.getfield 7, 3) := by decide +kernel
theorem dX8_fits_23 : decode cX8_fits 23 = .ok (.bipush 19, 2) := by decide +kernel
theorem dX8_fits_25 : decode cX8_fits 25 = .ok (.iconst 2, 1) := by decide +kernel
theorem dX8_fits_26 : decode cX8_fits 26 = .ok (.iload_n 3, 1) := by decide +kernel
theorem dX8_fits_27 : decode cX8_fits 27 = .ok (.imul, 1) := by decide +kernel
theorem dX8_fits_28 : decode cX8_fits 28 = .ok (.iadd, 1) := by decide +kernel
theorem dX8_fits_29 : decode cX8_fits 29 = .ok (.iaload, 1) := by decide +kernel
theorem dX8_fits_30 : decode cX8_fits 30 = .ok (.iload_n 1, 1) := by decide +kernel
theorem dX8_fits_31 : decode cX8_fits 31 = .ok (.invokestatic 188, 3) := by decide +kernel
theorem dX8_fits_34 : decode cX8_fits 34 = .ok (.aload_n 0, 1) := by decide +kernel
theorem dX8_fits_35 : decode cX8_fits 35 = .ok (.getfield 7, 3) := by decide +kernel
theorem dX8_fits_38 : decode cX8_fits 38 = .ok (.bipush 19, 2) := by decide +kernel
theorem dX8_fits_40 : decode cX8_fits 40 = .ok (.iconst 2, 1) := by decide +kernel
theorem dX8_fits_41 : decode cX8_fits 41 = .ok (.iload_n 3, 1) := by decide +kernel
theorem dX8_fits_42 : decode cX8_fits 42 = .ok (.imul, 1) := by decide +kernel
theorem dX8_fits_43 : decode cX8_fits 43 = .ok (.iadd, 1) := by decide +kernel
theorem dX8_fits_44 : decode cX8_fits 44 = .ok (.iconst 1, 1) := by decide +kernel
theorem dX8_fits_45 : decode cX8_fits 45 = .ok (.iadd, 1) := by decide +kernel
theorem dX8_fits_46 : decode cX8_fits 46 = .ok (.iaload, 1) := by decide +kernel
theorem dX8_fits_47 : decode cX8_fits 47 = .ok (.if_icmp .ne 7, 3) := by decide +kernel
theorem dX8_fits_50 : decode cX8_fits 50 = .ok (.iconst 1, 1) := by decide +kernel
theorem dX8_fits_51 : decode cX8_fits 51 = .ok (.goto 4, 3) := by decide +kernel
theorem dX8_fits_54 : decode cX8_fits 54 = .ok (.iconst 0, 1) := by decide +kernel
theorem dX8_fits_55 : decode cX8_fits 55 = .ok (.istore_n 2, 1) := by decide +kernel
theorem dX8_fits_56 : decode cX8_fits 56 = .ok (.iinc 3 1, 3) := by decide +kernel
theorem dX8_fits_59 : decode cX8_fits 59 = .ok (.goto (-55), 3) := by decide +kernel
theorem dX8_fits_62 : decode cX8_fits 62 = .ok (.iload_n 2, 1) := by decide +kernel
theorem dX8_fits_63 : decode cX8_fits 63 = .ok (.ireturn, 1) := by decide +kernel
theorem dX8_lines_0 : decode cX8_lines 0 = .ok (.iload_n 1, 1) := by decide +kernel
theorem dX8_lines_1 : decode cX8_lines 1 = .ok (.i2l, 1) := by decide +kernel
theorem dX8_lines_2 : decode cX8_lines 2 = .ok (.lconst 0, 1) := by decide +kernel
theorem dX8_lines_3 : decode cX8_lines 3 = .ok (.ldc2_w 131, 3) := by decide +kernel
theorem dX8_lines_6 : decode cX8_lines 6 = .ok (.invokestatic 56, 3) := by decide +kernel
theorem dX8_lines_9 : decode cX8_lines 9 = .ok (.ifCond .ne 10, 3) := by decide +kernel
theorem dX8_lines_12 : decode cX8_lines 12 = .ok (.aload_n 0, 1) := by decide +kernel
theorem dX8_lines_13 : decode cX8_lines 13 = .ok (.bipush (-2), 2) := by decide +kernel
theorem dX8_lines_15 : decode cX8_lines 15 = .ok (.invokevirtual 78, 3) := by decide +kernel
theorem dX8_lines_18 : decode cX8_lines 18 = .ok (.ireturn, 1) := by decide +kernel
theorem dX8_lines_19 : decode cX8_lines 19 = .ok (.iconst 0, 1) := by decide +kernel
theorem dX8_lines_20 : decode cX8_lines 20 = .ok (.istore_n 2, 1) := by decide +kernel
theorem dX8_lines_21 : decode cX8_lines 21 = .ok (.iconst (-1), 1) := by decide +kernel
theorem dX8_lines_22 : decode cX8_lines 22 = .ok (.istore_n 3, 1) := by decide +kernel
theorem dX8_lines_23 : decode cX8_lines 23 = .ok (.iconst (-1), 1) := by decide +kernel
theorem dX8_lines_24 : decode cX8_lines 24 = .ok (.istore 4, 2) := by decide +kernel
theorem dX8_lines_26 : decode cX8_lines 26 = .ok (.iconst 1, 1) := by decide +kernel
theorem dX8_lines_27 : decode cX8_lines 27 = .ok (.istore 5, 2) := by decide +kernel
theorem dX8_lines_29 : decode cX8_lines 29 = .ok (.iload 5, 2) := by decide +kernel
theorem dX8_lines_31 : decode cX8_lines 31 = .ok (.bipush 60, 2) := by decide +kernel
theorem dX8_lines_33 : decode cX8_lines 33 = .ok (.if_icmp .gt 36, 3) := by decide +kernel
theorem dX8_lines_36 : decode cX8_lines 36 = .ok (.aload_n 0, 1) := by decide +kernel
theorem dX8_lines_37 : decode cX8_lines 37 = .ok (.iload 5, 2) := by decide +kernel
theorem dX8_lines_39 : decode cX8_lines 39 = .ok (.invokevirtual 225, 3) := by decide +kernel
theorem dX8_lines_42 : decode cX8_lines 42 = .ok (.ifCond .eq 21, 3) := by decide +kernel
theorem dX8_lines_45 : decode cX8_lines 45 = .ok (.iload_n 2, 1) := by decide +kernel
theorem dX8_lines_46 : decode cX8_lines 46 = .ok (.ifCond .ne 8, 3) := by decide +kernel
theorem dX8_lines_49 : decode cX8_lines 49 = .ok (.iload 5, 2) := by decide +kernel
theorem dX8_lines_51 : decode cX8_lines 51 = .ok (.goto 4, 3) := by decide +kernel
theorem dX8_lines_54 : decode cX8_lines 54 = .ok (.iload_n 3, 1) := by decide +kernel
theorem dX8_lines_55 : decode cX8_lines 55 = .ok (.istore_n 3, 1) := by decide +kernel
theorem dX8_lines_56 : decode cX8_lines 56 = .ok (.iload 5, 2) := by decide +kernel
theorem dX8_lines_58 : decode cX8_lines 58 = .ok (.istore 4, 2) := by decide +kernel
theorem dX8_lines_60 : decode cX8_lines 60 = .ok (.iinc 2 1, 3) := by decide +kernel
theorem dX8_lines_63 : decode cX8_lines 63 = .ok (.iinc 5 1, 3) := by decide +kernel
theorem dX8_lines_66 : decode cX8_lines 66 = .ok (.goto (-37), 3) := by decide +kernel
theorem dX8_lines_69 : decode cX8_lines 69 = .ok (.iload_n 1, 1) := by decide +kernel
theorem dX8_lines_70 : decode cX8_lines 70 = .ok (.ifCond .ne 7, 3) := by decide +kernel
theorem dX8_lines_73 : decode cX8_lines 73 = .ok (.iload_n 2, 1) := by decide +kernel
theorem dX8_lines_74 : decode cX8_lines 74 = .ok (.goto 14, 3) := by decide +kernel
theorem dX8_lines_77 : decode cX8_lines 77 = .ok (.iload_n 1, 1) := by decide +kernel
theorem dX8_lines_78 : decode cX8_lines 78 = .ok (.iconst 1, 1) := by decide +kernel
theorem dX8_lines_79 : decode cX8_lines 79 = .ok (.if_icmp .ne 7, 3) := by decide +kernel
theorem dX8_lines_82 : decode cX8_lines 82 = .ok (.iload_n 3, 1) := by decide +kernel
theorem dX8_lines_83 : decode cX8_lines 83 = .ok (.goto 5, 3) := by decide +kernel
theorem dX8_lines_86 : decode cX8_lines 86 = .ok (.iload 4, 2) := by decide +kernel
theorem dX8_lines_88 : decode cX8_lines 88 = .ok (.ireturn, 1) := by decide +kernel
theorem dX8_tries_0 : decode cX8_tries 0 = .ok (.iconst (-1), 1) := by decide +kernel
theorem dX8_tries_1 : decode cX8_tries 1 = .ok (.istore_n 1, 1) := by decide +kernel
theorem dX8_tries_2 : decode cX8_tries 2 = .ok (.ldc 212, 2) := by decide +kernel
theorem dX8_tries_4 : decode cX8_tries 4 = .ok (.istore_n 2, 1) := by decide +kernel
theorem dX8_tries_5 : decode cX8_tries 5 = .ok (.iconst 0, 1) := by decide +kernel
theorem dX8_tries_6 : decode cX8_tries 6 = .ok (.istore_n 3, 1) := by decide +kernel
theorem dX8_tries_7 : decode cX8_tries 7 = .ok (.iconst 1, 1) := by decide +kernel
theorem dX8_tries_8 : decode cX8_tries 8 = .ok (.istore 4, 2) := by decide +kernel
theorem dX8_tries_10 : decode cX8_tries 10 = .ok (.iload 4, 2) := by decide +kernel
theorem dX8_tries_12 : decode cX8_tries 12 = .ok (.bipush 60, 2) := by decide +kernel
theorem dX8_tries_14 : decode cX8_tries 14 = .ok (.if_icmp .gt 139, 3) := by decide +kernel
theorem dX8_tries_17 : decode cX8_tries 17 = .ok (.iconst 0, 1) := by decide +kernel
theorem dX8_tries_18 : decode cX8_tries 18 = .ok (.istore 5, 2) := by decide +kernel
theorem dX8_tries_20 : decode cX8_tries 20 = .ok (.iload 5, 2) := by decide +kernel
theorem dX8_tries_22 : decode cX8_tries 22 = .ok (.bipush 62, 2) := by decide +kernel
theorem dX8_tries_24 : decode cX8_tries 24 = .ok (.if_icmp .ge 17, 3) := by decide +kernel
theorem dX8_tries_27 : decode cX8_tries 27 = .ok (.aload_n 0, 1) := by decide +kernel
theorem dX8_tries_28 : decode cX8_tries 28 = .ok (.getfield 42, 3) := by decide +kernel
theorem dX8_tries_31 : decode cX8_tries 31 = .ok (.iload 5, 2) := by decide +kernel
theorem dX8_tries_33 : decode cX8_tries 33 = .ok (.iconst 0, 1) := by decide +kernel
theorem dX8_tries_34 : decode cX8_tries 34 = .ok (.iastore, 1) := by decide +kernel
theorem dX8_tries_35 : decode cX8_tries 35 = .ok (.iinc 5 1, 3) := by decide +kernel
theorem dX8_tries_38 : decode cX8_tries 38 = .ok (.goto (-18), 3) := by decide +kernel
theorem dX8_tries_41 : decode cX8_tries 41 = .ok (.iconst 0, 1) := by decide +kernel
theorem dX8_tries_42 : decode cX8_tries 42 = .ok (.istore 5, 2) := by decide +kernel
theorem dX8_tries_44 : decode cX8_tries 44 = .ok (.iconst 1, 1) := by decide +kernel
theorem dX8_tries_45 : decode cX8_tries 45 = .ok (.istore 6, 2) := by decide +kernel
theorem dX8_tries_47 : decode cX8_tries 47 = .ok (.iload 6, 2) := by decide +kernel
theorem dX8_tries_49 : decode cX8_tries 49 = .ok (.bipush 60, 2) := by decide +kernel
theorem dX8_tries_51 : decode cX8_tries 51 = .ok (.if_icmp .gt 66, 3) := by decide +kernel
theorem dX8_tries_54 : decode cX8_tries 54 = .ok (.aload_n 0, 1) := by decide +kernel
theorem dX8_tries_55 : decode cX8_tries 55 = .ok (.iload 6, 2) := by decide +kernel
theorem dX8_tries_57 : decode cX8_tries 57 = .ok (.invokevirtual 225, 3) := by decide +kernel
theorem dX8_tries_60 : decode cX8_tries 60 = .ok (.ifCond .eq 51, 3) := by decide +kernel
theorem dX8_tries_63 : decode cX8_tries 63 = .ok (.iconst 1, 1) := by decide +kernel
theorem dX8_tries_64 : decode cX8_tries 64 = .ok (.istore_n 3, 1) := by decide +kernel
theorem dX8_tries_65 : decode cX8_tries 65 = .ok (.iload 4, 2) := by decide +kernel
theorem dX8_tries_67 : decode cX8_tries 67 = .ok (.iload 6, 2) := by decide +kernel
theorem dX8_tries_69 : decode cX8_tries 69 = .ok (.invokestatic 188, 3) := by decide +kernel
theorem dX8_tries_72 : decode cX8_tries 72 = .ok (.istore 7, 2) := by decide +kernel
theorem dX8_tries_74 : decode cX8_tries 74 = .ok (.aload_n 0, 1) := by decide +kernel
theorem dX8_tries_75 : decode cX8_tries 75 = .ok (.getfield 42, 3) := by decide +kernel
theorem dX8_tries_78 : decode cX8_tries 78 = .ok (.iload 7, 2) := by decide +kernel
theorem dX8_tries_80 : decode cX8_tries 80 = .ok (.dup2, 1) := by decide +kernel
theorem dX8_tries_81 : decode cX8_tries 81 = .ok (.iaload, 1) := by decide +kernel
theorem dX8_tries_82 : decode cX8_tries 82 = .ok (.iconst 1, 1) := by decide +kernel
theorem dX8_tries_83 : decode cX8_tries 83 = .ok (.iadd, 1) := by decide +kernel
theorem dX8_tries_84 : decode cX8_tries 84 = .ok (.iastore, 1) := by decide +kernel
theorem dX8_tries_85 : decode cX8_tries 85 = .ok (.aload_n 0, 1) := by decide +kernel
theorem dX8_tries_86 : decode cX8_tries 86 = .ok (.getfield 42, 3) := by decide +kernel
theorem dX8_tries_89 : decode cX8_tries 89 = .ok (.iload 7, 2) := by decide +kernel
theorem dX8_tries_91 : decode cX8_tries 91 = .ok (.iaload, 1) := by decide +kernel
theorem dX8_tries_92 : decode cX8_tries 92 = .ok (.iload 5, 2) := by decide +kernel
theorem dX8_tries_94 : decode cX8_tries 94 = .ok (.if_icmp .le 13, 3) := by decide +kernel
theorem dX8_tries_97 : decode cX8_tries 97 = .ok (.aload_n 0, 1) := by decide +kernel
theorem dX8_tries_98 : decode cX8_tries 98 = .ok (.getfield 42, 3) := by decide +kernel
theorem dX8_tries_101 : decode cX8_tries 101 = .ok (.iload 7, 2) := by decide +kernel
theorem dX8_tries_103 : decode cX8_tries 103 = .ok (.iaload, 1) := by decide +kernel
theorem dX8_tries_104 : decode cX8_tries 104 = .ok (.goto 5, 3) := by decide +kernel
theorem dX8_tries_107 : decode cX8_tries 107 = .ok (.iload 5, 2) := by decide +kernel
theorem dX8_tries_109 : decode cX8_tries 109 = .ok (.istore 5, 2) := by decide +kernel
theorem dX8_tries_111 : decode cX8_tries 111 = .ok (.iinc 6 1, 3) := by decide +kernel
theorem dX8_tries_114 : decode cX8_tries 114 = .ok (.goto (-67), 3) := by decide +kernel
theorem dX8_tries_117 : decode cX8_tries 117 = .ok (.iload_n 3, 1) := by decide +kernel
theorem dX8_tries_118 : decode cX8_tries 118 = .ok (.ifCond .eq 14, 3) := by decide +kernel
theorem dX8_tries_121 : decode cX8_tries 121 = .ok (.iload 5, 2) := by decide +kernel
theorem dX8_tries_123 : decode cX8_tries 123 = .ok (.iload_n 2, 1) := by decide +kernel
theorem dX8_tries_124 : decode cX8_tries 124 = .ok (.if_icmp .ge 8, 3) := by decide +kernel
theorem dX8_tries_127 : decode cX8_tries 127 = .ok (.iload 4, 2) := by decide +kernel
theorem dX8_tries_129 : decode cX8_tries 129 = .ok (.goto 4, 3) := by decide +kernel
theorem dX8_tries_132 : decode cX8_tries 132 = .ok (.iload_n 1, 1) := by decide +kernel
theorem dX8_tries_133 : decode cX8_tries 133 = .ok (.istore_n 1, 1) := by decide +kernel
theorem dX8_tries_134 : decode cX8_tries 134 = .ok (.iload 5, 2) := by decide +kernel
theorem dX8_tries_136 : decode cX8_tries 136 = .ok (.iload_n 2, 1) := by decide +kernel
theorem dX8_tries_137 : decode cX8_tries 137 = .ok (.if_icmp .ge 8, 3) := by decide +kernel
theorem dX8_tries_140 : decode cX8_tries 140 = .ok (.iload 5, 2) := by decide +kernel
theorem dX8_tries_142 : decode cX8_tries 142 = .ok (.goto 4, 3) := by decide +kernel
theorem dX8_tries_145 : decode cX8_tries 145 = .ok (.iload_n 2, 1) := by decide +kernel
theorem dX8_tries_146 : decode cX8_tries 146 = .ok (.istore_n 2, 1) := by decide +kernel
theorem dX8_tries_147 : decode cX8_tries 147 = .ok (.iinc 4 1, 3) := by decide +kernel
theorem dX8_tries_150 : decode cX8_tries 150 = .ok (.goto (-140), 3) := by decide +kernel
theorem dX8_tries_153 : decode cX8_tries 153 = .ok (.iload_n 1, 1) := by decide +kernel
theorem dX8_tries_154 : decode cX8_tries 154 = .ok (.ireturn, 1) := by decide +kernel
theorem dX8_note_0 : decode cX8_note 0 = .ok (.aload_n 0, 1) := by decide +kernel
theorem dX8_note_1 : decode cX8_note 1 = .ok (.iload_n 1, 1) := by decide +kernel
theorem dX8_note_2 : decode cX8_note 2 = .ok (.invokevirtual 197, 3) := by decide +kernel
theorem dX8_note_5 : decode cX8_note 5 = .ok (.ifCond .eq 40, 3) := by decide +kernel
theorem dX8_note_8 : decode cX8_note 8 = .ok (.iload_n 2, 1) := by decide +kernel
theorem dX8_note_9 : decode cX8_note 9 = .ok (.i2l, 1) := by decide +kernel
theorem dX8_note_10 : decode cX8_note 10 = .ok (.lconst 1, 1) := by decide +kernel
theorem dX8_note_11 : decode cX8_note 11 = .ok (.ldc2_w 74, 3) := by decide +kernel
theorem dX8_note_14 : decode cX8_note 14 = .ok (.invokestatic 56, 3) := by decide +kernel
theorem dX8_note_17 : decode cX8_note 17 = .ok (.ifCond .eq 28, 3) := by decide +kernel
theorem dX8_note_20 : decode cX8_note 20 = .ok (.iload_n 3, 1) := by decide +kernel
theorem dX8_note_21 : decode cX8_note 21 = .ok (.i2l, 1) := by decide +kernel
theorem dX8_note_22 : decode cX8_note 22 = .ok (.lconst 0, 1) := by decide +kernel
theorem dX8_note_23 : decode cX8_note 23 = .ok (.ldc2_w 228, 3) := by decide +kernel
theorem dX8_note_26 : decode cX8_note 26 = .ok (.invokestatic 56, 3) := by decide +kernel
theorem dX8_note_29 : decode cX8_note 29 = .ok (.ifCond .eq 16, 3) := by decide +kernel
theorem dX8_note_32 : decode cX8_note 32 = .ok (.iload 4, 2) := by decide +kernel
theorem dX8_note_34 : decode cX8_note 34 = .ok (.i2l, 1) := by decide +kernel
theorem dX8_note_35 : decode cX8_note 35 = .ok (.lconst 0, 1) := by decide +kernel
theorem dX8_note_36 : decode cX8_note 36 = .ok (.ldc2_w 230, 3) := by decide +kernel
theorem dX8_note_39 : decode cX8_note 39 = .ok (.invokestatic 56, 3) := by decide +kernel
theorem dX8_note_42 : decode cX8_note 42 = .ok (.ifCond .ne 10, 3) := by decide +kernel
theorem dX8_note_45 : decode cX8_note 45 = .ok (.aload_n 0, 1) := by decide +kernel
theorem dX8_note_46 : decode cX8_note 46 = .ok (.bipush (-2), 2) := by decide +kernel
theorem dX8_note_48 : decode cX8_note 48 = .ok (.invokevirtual 78, 3) := by decide +kernel
theorem dX8_note_51 : decode cX8_note 51 = .ok (.ireturn, 1) := by decide +kernel
theorem dX8_note_52 : decode cX8_note 52 = .ok (.aload_n 0, 1) := by decide +kernel
theorem dX8_note_53 : decode cX8_note 53 = .ok (.getfield 7, 3) := by decide +kernel
theorem dX8_note_56 : decode cX8_note 56 = .ok (.bipush 31, 2) := by decide +kernel
theorem dX8_note_58 : decode cX8_note 58 = .ok (.iaload, 1) := by decide +kernel
theorem dX8_note_59 : decode cX8_note 59 = .ok (.bipush 6, 2) := by decide +kernel
theorem dX8_note_61 : decode cX8_note 61 = .ok (.if_icmp .ne 8, 3) := by decide +kernel
theorem dX8_note_64 : decode cX8_note 64 = .ok (.aload_n 0, 1) := by decide +kernel
theorem dX8_note_65 : decode cX8_note 65 = .ok (.invokevirtual 87, 3) := by decide +kernel
theorem dX8_note_68 : decode cX8_note 68 = .ok (.ireturn, 1) := by decide +kernel
theorem dX8_note_69 : decode cX8_note 69 = .ok (.bipush 32, 2) := by decide +kernel
theorem dX8_note_71 : decode cX8_note 71 = .ok (.iconst 4, 1) := by decide +kernel
theorem dX8_note_72 : decode cX8_note 72 = .ok (.aload_n 0, 1) := by decide +kernel
theorem dX8_note_73 : decode cX8_note 73 = .ok (.getfield 7, 3) := by decide +kernel
theorem dX8_note_76 : decode cX8_note 76 = .ok (.bipush 31, 2) := by decide +kernel
theorem dX8_note_78 : decode cX8_note 78 = .ok (.iaload, 1) := by decide +kernel
theorem dX8_note_79 : decode cX8_note 79 = .ok (.imul, 1) := by decide +kernel
theorem dX8_note_80 : decode cX8_note 80 = .ok (.iadd, 1) := by decide +kernel
theorem dX8_note_81 : decode cX8_note 81 = .ok (.istore 5, 2) := by decide +kernel
theorem dX8_note_83 : decode cX8_note 83 = .ok (.aload_n 0, 1) := by decide +kernel
theorem dX8_note_84 : decode cX8_note 84 = .ok (.getfield 7, 3) := by decide +kernel
theorem dX8_note_87 : decode cX8_note 87 = .ok (.iload 5, 2) := by decide +kernel
theorem dX8_note_89 : decode cX8_note 89 = .ok (.iload_n 1, 1) := by decide +kernel
theorem dX8_note_90 : decode cX8_note 90 = .ok (.iastore, 1) := by decide +kernel
theorem dX8_note_91 : decode cX8_note 91 = .ok (.aload_n 0, 1) := by decide +kernel
theorem dX8_note_92 : decode cX8_note 92 = .ok (.getfield 7, 3) := by decide +kernel
theorem dX8_note_95 : decode cX8_note 95 = .ok (.iload 5, 2) := by decide +kernel
theorem dX8_note_97 : decode cX8_note 97 = .ok (.iconst 1, 1) := by decide +kernel
theorem dX8_note_98 : decode cX8_note 98 = .ok (.iadd, 1) := by decide +kernel
theorem dX8_note_99 : decode cX8_note 99 = .ok (.iload_n 2, 1) := by decide +kernel
theorem dX8_note_100 : decode cX8_note 100 = .ok (.iastore, 1) := by decide +kernel
theorem dX8_note_101 : decode cX8_note 101 = .ok (.aload_n 0, 1) := by decide +kernel
theorem dX8_note_102 : decode cX8_note 102 = .ok (.getfield 7, 3) := by decide +kernel
theorem dX8_note_105 : decode cX8_note 105 = .ok (.iload 5, 2) := by decide +kernel
theorem dX8_note_107 : decode cX8_note 107 = .ok (.iconst 2, 1) := by decide +kernel
theorem dX8_note_108 : decode cX8_note 108 = .ok (.iadd, 1) := by decide +kernel
theorem dX8_note_109 : decode cX8_note 109 = .ok (.iload_n 3, 1) := by decide +kernel
theorem dX8_note_110 : decode cX8_note 110 = .ok (.iastore, 1) := by decide +kernel
theorem dX8_note_111 : decode cX8_note 111 = .ok (.aload_n 0, 1) := by decide +kernel
theorem dX8_note_112 : decode cX8_note 112 = .ok (.getfield 7, 3) := by decide +kernel
theorem dX8_note_115 : decode cX8_note 115 = .ok (.iload 5, 2) := by decide +kernel
theorem dX8_note_117 : decode cX8_note 117 = .ok (.iconst 3, 1) := by decide +kernel
theorem dX8_note_118 : decode cX8_note 118 = .ok (.iadd, 1) := by decide +kernel
theorem dX8_note_119 : decode cX8_note 119 = .ok (.iload 4, 2) := by decide +kernel
theorem dX8_note_121 : decode cX8_note 121 = .ok (.iastore, 1) := by decide +kernel
theorem dX8_note_122 : decode cX8_note 122 = .ok (.aload_n 0, 1) := by decide +kernel
theorem dX8_note_123 : decode cX8_note 123 = .ok (.getfield 7, 3) := by decide +kernel
theorem dX8_note_126 : decode cX8_note 126 = .ok (.bipush 31, 2) := by decide +kernel
theorem dX8_note_128 : decode cX8_note 128 = .ok (.dup2, 1) := by decide +kernel
theorem dX8_note_129 : decode cX8_note 129 = .ok (.iaload, 1) := by decide +kernel
theorem dX8_note_130 : decode cX8_note 130 = .ok (.iconst 1, 1) := by decide +kernel
theorem dX8_note_131 : decode cX8_note 131 = .ok (.iadd, 1) := by decide +kernel
theorem dX8_note_132 : decode cX8_note 132 = .ok (.iastore, 1) := by decide +kernel
theorem dX8_note_133 : decode cX8_note 133 = .ok (.aload_n 0, 1) := by decide +kernel
theorem dX8_note_134 : decode cX8_note 134 = .ok (.getfield 7, 3) := by decide +kernel
theorem dX8_note_137 : decode cX8_note 137 = .ok (.bipush 31, 2) := by decide +kernel
theorem dX8_note_139 : decode cX8_note 139 = .ok (.iaload, 1) := by decide +kernel
theorem dX8_note_140 : decode cX8_note 140 = .ok (.ireturn, 1) := by decide +kernel
theorem dX8_mark_0 : decode cX8_mark 0 = .ok (.iload_n 1, 1) := by decide +kernel
theorem dX8_mark_1 : decode cX8_mark 1 = .ok (.invokestatic 81, 3) := by decide +kernel
theorem dX8_mark_4 : decode cX8_mark 4 = .ok (.ifCond .eq 40, 3) := by decide +kernel
theorem dX8_mark_7 : decode cX8_mark 7 = .ok (.iload_n 2, 1) := by decide +kernel
theorem dX8_mark_8 : decode cX8_mark 8 = .ok (.i2l, 1) := by decide +kernel
theorem dX8_mark_9 : decode cX8_mark 9 = .ok (.lconst 0, 1) := by decide +kernel
theorem dX8_mark_10 : decode cX8_mark 10 = .ok (.ldc2_w 206, 3) := by decide +kernel
theorem dX8_mark_13 : decode cX8_mark 13 = .ok (.invokestatic 56, 3) := by decide +kernel
theorem dX8_mark_16 : decode cX8_mark 16 = .ok (.ifCond .eq 28, 3) := by decide +kernel
theorem dX8_mark_19 : decode cX8_mark 19 = .ok (.iload_n 3, 1) := by decide +kernel
theorem dX8_mark_20 : decode cX8_mark 20 = .ok (.i2l, 1) := by decide +kernel
theorem dX8_mark_21 : decode cX8_mark 21 = .ok (.lconst 0, 1) := by decide +kernel
theorem dX8_mark_22 : decode cX8_mark 22 = .ok (.ldc2_w 206, 3) := by decide +kernel
theorem dX8_mark_25 : decode cX8_mark 25 = .ok (.invokestatic 56, 3) := by decide +kernel
theorem dX8_mark_28 : decode cX8_mark 28 = .ok (.ifCond .eq 16, 3) := by decide +kernel
theorem dX8_mark_31 : decode cX8_mark 31 = .ok (.iload 4, 2) := by decide +kernel
theorem dX8_mark_33 : decode cX8_mark 33 = .ok (.i2l, 1) := by decide +kernel
theorem dX8_mark_34 : decode cX8_mark 34 = .ok (.lconst 0, 1) := by decide +kernel
theorem dX8_mark_35 : decode cX8_mark 35 = .ok (.ldc2_w 230, 3) := by decide +kernel
theorem dX8_mark_38 : decode cX8_mark 38 = .ok (.invokestatic 56, 3) := by decide +kernel
theorem dX8_mark_41 : decode cX8_mark 41 = .ok (.ifCond .ne 10, 3) := by decide +kernel
theorem dX8_mark_44 : decode cX8_mark 44 = .ok (.aload_n 0, 1) := by decide +kernel
theorem dX8_mark_45 : decode cX8_mark 45 = .ok (.bipush (-2), 2) := by decide +kernel
theorem dX8_mark_47 : decode cX8_mark 47 = .ok (.invokevirtual 78, 3) := by decide +kernel
theorem dX8_mark_50 : decode cX8_mark 50 = .ok (.ireturn, 1) := by decide +kernel
theorem dX8_mark_51 : decode cX8_mark 51 = .ok (.aload_n 0, 1) := by decide +kernel
theorem dX8_mark_52 : decode cX8_mark 52 = .ok (.getfield 7, 3) := by decide +kernel
theorem dX8_mark_55 : decode cX8_mark 55 = .ok (.bipush 56, 2) := by decide +kernel
theorem dX8_mark_57 : decode cX8_mark 57 = .ok (.iaload, 1) := by decide +kernel
theorem dX8_mark_58 : decode cX8_mark 58 = .ok (.bipush 6, 2) := by decide +kernel
theorem dX8_mark_60 : decode cX8_mark 60 = .ok (.if_icmp .ne 8, 3) := by decide +kernel
theorem dX8_mark_63 : decode cX8_mark 63 = .ok (.aload_n 0, 1) := by decide +kernel
theorem dX8_mark_64 : decode cX8_mark 64 = .ok (.invokevirtual 87, 3) := by decide +kernel
theorem dX8_mark_67 : decode cX8_mark 67 = .ok (.ireturn, 1) := by decide +kernel
theorem dX8_mark_68 : decode cX8_mark 68 = .ok (.bipush 57, 2) := by decide +kernel
theorem dX8_mark_70 : decode cX8_mark 70 = .ok (.iconst 4, 1) := by decide +kernel
theorem dX8_mark_71 : decode cX8_mark 71 = .ok (.aload_n 0, 1) := by decide +kernel
theorem dX8_mark_72 : decode cX8_mark 72 = .ok (.getfield 7, 3) := by decide +kernel
theorem dX8_mark_75 : decode cX8_mark 75 = .ok (.bipush 56, 2) := by decide +kernel
theorem dX8_mark_77 : decode cX8_mark 77 = .ok (.iaload, 1) := by decide +kernel
theorem dX8_mark_78 : decode cX8_mark 78 = .ok (.imul, 1) := by decide +kernel
theorem dX8_mark_79 : decode cX8_mark 79 = .ok (.iadd, 1) := by decide +kernel
theorem dX8_mark_80 : decode cX8_mark 80 = .ok (.istore 5, 2) := by decide +kernel
theorem dX8_mark_82 : decode cX8_mark 82 = .ok (.aload_n 0, 1) := by decide +kernel
theorem dX8_mark_83 : decode cX8_mark 83 = .ok (.getfield 7, 3) := by decide +kernel
theorem dX8_mark_86 : decode cX8_mark 86 = .ok (.iload 5, 2) := by decide +kernel
theorem dX8_mark_88 : decode cX8_mark 88 = .ok (.iload_n 1, 1) := by decide +kernel
theorem dX8_mark_89 : decode cX8_mark 89 = .ok (.iastore, 1) := by decide +kernel
theorem dX8_mark_90 : decode cX8_mark 90 = .ok (.aload_n 0, 1) := by decide +kernel
theorem dX8_mark_91 : decode cX8_mark 91 = .ok (.getfield 7, 3) := by decide +kernel
theorem dX8_mark_94 : decode cX8_mark 94 = .ok (.iload 5, 2) := by decide +kernel
theorem dX8_mark_96 : decode cX8_mark 96 = .ok (.iconst 1, 1) := by decide +kernel
theorem dX8_mark_97 : decode cX8_mark 97 = .ok (.iadd, 1) := by decide +kernel
theorem dX8_mark_98 : decode cX8_mark 98 = .ok (.iload_n 2, 1) := by decide +kernel
theorem dX8_mark_99 : decode cX8_mark 99 = .ok (.iastore, 1) := by decide +kernel
theorem dX8_mark_100 : decode cX8_mark 100 = .ok (.aload_n 0, 1) := by decide +kernel
theorem dX8_mark_101 : decode cX8_mark 101 = .ok (.getfield 7, 3) := by decide +kernel
theorem dX8_mark_104 : decode cX8_mark 104 = .ok (.iload 5, 2) := by decide +kernel
theorem dX8_mark_106 : decode cX8_mark 106 = .ok (.iconst 2, 1) := by decide +kernel
theorem dX8_mark_107 : decode cX8_mark 107 = .ok (.iadd, 1) := by decide +kernel
theorem dX8_mark_108 : decode cX8_mark 108 = .ok (.iload_n 3, 1) := by decide +kernel
theorem dX8_mark_109 : decode cX8_mark 109 = .ok (.iastore, 1) := by decide +kernel
theorem dX8_mark_110 : decode cX8_mark 110 = .ok (.aload_n 0, 1) := by decide +kernel
theorem dX8_mark_111 : decode cX8_mark 111 = .ok (.getfield 7, 3) := by decide +kernel
theorem dX8_mark_114 : decode cX8_mark 114 = .ok (.iload 5, 2) := by decide +kernel
theorem dX8_mark_116 : decode cX8_mark 116 = .ok (.iconst 3, 1) := by decide +kernel
theorem dX8_mark_117 : decode cX8_mark 117 = .ok (.iadd, 1) := by decide +kernel
theorem dX8_mark_118 : decode cX8_mark 118 = .ok (.iload 4, 2) := by decide +kernel
theorem dX8_mark_120 : decode cX8_mark 120 = .ok (.iastore, 1) := by decide +kernel
theorem dX8_mark_121 : decode cX8_mark 121 = .ok (.aload_n 0, 1) := by decide +kernel
theorem dX8_mark_122 : decode cX8_mark 122 = .ok (.getfield 7, 3) := by decide +kernel
theorem dX8_mark_125 : decode cX8_mark 125 = .ok (.bipush 56, 2) := by decide +kernel
theorem dX8_mark_127 : decode cX8_mark 127 = .ok (.dup2, 1) := by decide +kernel
theorem dX8_mark_128 : decode cX8_mark 128 = .ok (.iaload, 1) := by decide +kernel
theorem dX8_mark_129 : decode cX8_mark 129 = .ok (.iconst 1, 1) := by decide +kernel
theorem dX8_mark_130 : decode cX8_mark 130 = .ok (.iadd, 1) := by decide +kernel
theorem dX8_mark_131 : decode cX8_mark 131 = .ok (.iastore, 1) := by decide +kernel
theorem dX8_mark_132 : decode cX8_mark 132 = .ok (.aload_n 0, 1) := by decide +kernel
theorem dX8_mark_133 : decode cX8_mark 133 = .ok (.getfield 7, 3) := by decide +kernel
theorem dX8_mark_136 : decode cX8_mark 136 = .ok (.bipush 56, 2) := by decide +kernel
theorem dX8_mark_138 : decode cX8_mark 138 = .ok (.iaload, 1) := by decide +kernel
theorem dX8_mark_139 : decode cX8_mark 139 = .ok (.ireturn, 1) := by decide +kernel
theorem dX8_forget_0 : decode cX8_forget 0 = .ok (.iload_n 1, 1) := by decide +kernel
theorem dX8_forget_1 : decode cX8_forget 1 = .ok (.i2l, 1) := by decide +kernel
theorem dX8_forget_2 : decode cX8_forget 2 = .ok (.lconst 0, 1) := by decide +kernel
theorem dX8_forget_3 : decode cX8_forget 3 = .ok (.ldc2_w 131, 3) := by decide +kernel
theorem dX8_forget_6 : decode cX8_forget 6 = .ok (.invokestatic 56, 3) := by decide +kernel
theorem dX8_forget_9 : decode cX8_forget 9 = .ok (.ifCond .ne 10, 3) := by decide +kernel
theorem dX8_forget_12 : decode cX8_forget 12 = .ok (.aload_n 0, 1) := by decide +kernel
theorem dX8_forget_13 : decode cX8_forget 13 = .ok (.bipush (-2), 2) := by decide +kernel
theorem dX8_forget_15 : decode cX8_forget 15 = .ok (.invokevirtual 78, 3) := by decide +kernel
theorem dX8_forget_18 : decode cX8_forget 18 = .ok (.ireturn, 1) := by decide +kernel
theorem dX8_forget_19 : decode cX8_forget 19 = .ok (.iload_n 1, 1) := by decide +kernel
theorem dX8_forget_20 : decode cX8_forget 20 = .ok (.ifCond .ne 8, 3) := by decide +kernel
theorem dX8_forget_23 : decode cX8_forget 23 = .ok (.bipush 18, 2) := by decide +kernel
theorem dX8_forget_25 : decode cX8_forget 25 = .ok (.goto 15, 3) := by decide +kernel
theorem dX8_forget_28 : decode cX8_forget 28 = .ok (.iload_n 1, 1) := by decide +kernel
theorem dX8_forget_29 : decode cX8_forget 29 = .ok (.iconst 1, 1) := by decide +kernel
theorem dX8_forget_30 : decode cX8_forget 30 = .ok (.if_icmp .ne 8, 3) := by decide +kernel
theorem dX8_forget_33 : decode cX8_forget 33 = .ok (.bipush 31, 2) := by decide +kernel
theorem dX8_forget_35 : decode cX8_forget 35 = .ok (.goto 5, 3) := by decide +kernel
theorem dX8_forget_38 : decode cX8_forget 38 = .ok (.bipush 56, 2) := by decide +kernel
theorem dX8_forget_40 : decode cX8_forget 40 = .ok (.istore_n 2, 1) := by decide +kernel
theorem dX8_forget_41 : decode cX8_forget 41 = .ok (.aload_n 0, 1) := by decide +kernel
theorem dX8_forget_42 : decode cX8_forget 42 = .ok (.getfield 7, 3) := by decide +kernel
theorem dX8_forget_45 : decode cX8_forget 45 = .ok (.iload_n 2, 1) := by decide +kernel
theorem dX8_forget_46 : decode cX8_forget 46 = .ok (.iaload, 1) := by decide +kernel
theorem dX8_forget_47 : decode cX8_forget 47 = .ok (.istore_n 3, 1) := by decide +kernel
theorem dX8_forget_48 : decode cX8_forget 48 = .ok (.aload_n 0, 1) := by decide +kernel
theorem dX8_forget_49 : decode cX8_forget 49 = .ok (.getfield 7, 3) := by decide +kernel
theorem dX8_forget_52 : decode cX8_forget 52 = .ok (.iload_n 2, 1) := by decide +kernel
theorem dX8_forget_53 : decode cX8_forget 53 = .ok (.iconst 0, 1) := by decide +kernel
theorem dX8_forget_54 : decode cX8_forget 54 = .ok (.iastore, 1) := by decide +kernel
theorem dX8_forget_55 : decode cX8_forget 55 = .ok (.iload_n 3, 1) := by decide +kernel
theorem dX8_forget_56 : decode cX8_forget 56 = .ok (.ireturn, 1) := by decide +kernel
theorem dX8_kindsOf_0 : decode cX8_kindsOf 0 = .ok (.iconst 0, 1) := by decide +kernel
theorem dX8_kindsOf_1 : decode cX8_kindsOf 1 = .ok (.istore_n 2, 1) := by decide +kernel
theorem dX8_kindsOf_2 : decode cX8_kindsOf 2 = .ok (.iconst 0, 1) := by decide +kernel
theorem dX8_kindsOf_3 : decode cX8_kindsOf 3 = .ok (.istore_n 3, 1) := by decide +kernel
theorem dX8_kindsOf_4 : decode cX8_kindsOf 4 = .ok (.iload_n 3, 1) := by decide +kernel
theorem dX8_kindsOf_5 : decode cX8_kindsOf 5 = .ok (.bipush 6, 2) := by decide +kernel
theorem dX8_kindsOf_7 : decode cX8_kindsOf 7 = .ok (.if_icmp .ge 114, 3) := by decide +kernel
theorem dX8_kindsOf_10 : decode cX8_kindsOf 10 = .ok (.iconst 1, 1) := by decide +kernel
theorem dX8_kindsOf_11 : decode cX8_kindsOf 11 = .ok (.istore 4, 2) := by decide +kernel
theorem dX8_kindsOf_13 : decode cX8_kindsOf 13 = .ok (.iconst 0, 1) := by decide +kernel
theorem dX8_kindsOf_14 : decode cX8_kindsOf 14 = .ok (.istore 5, 2) := by decide +kernel
theorem dX8_kindsOf_16 : decode cX8_kindsOf 16 = .ok (.iload 5, 2) := by decide +kernel
theorem dX8_kindsOf_18 : decode cX8_kindsOf 18 = .ok (.aload_n 0, 1) := by decide +kernel
theorem dX8_kindsOf_19 : decode cX8_kindsOf 19 = .ok (.getfield 7, 3) := by decide +kernel
theorem dX8_kindsOf_22 : decode cX8_kindsOf 22 = .ok (.bipush 31, 2) := by decide +kernel
theorem dX8_kindsOf_24 : decode cX8_kindsOf 24 = .ok (.iaload, 1) := by decide +kernel
theorem dX8_kindsOf_25 : decode cX8_kindsOf 25 = .ok (.if_icmp .ge 75, 3) := by decide +kernel
theorem dX8_kindsOf_28 : decode cX8_kindsOf 28 = .ok (.bipush 32, 2) := by decide +kernel
theorem dX8_kindsOf_30 : decode cX8_kindsOf 30 = .ok (.iconst 4, 1) := by decide +kernel
theorem dX8_kindsOf_31 : decode cX8_kindsOf 31 = .ok (.iload 5, 2) := by decide +kernel
theorem dX8_kindsOf_33 : decode cX8_kindsOf 33 = .ok (.imul, 1) := by decide +kernel
theorem dX8_kindsOf_34 : decode cX8_kindsOf 34 = .ok (.iadd, 1) := by decide +kernel
theorem dX8_kindsOf_35 : decode cX8_kindsOf 35 = .ok (.istore 6, 2) := by decide +kernel
theorem dX8_kindsOf_37 : decode cX8_kindsOf 37 = .ok (.iload 4, 2) := by decide +kernel
theorem dX8_kindsOf_39 : decode cX8_kindsOf 39 = .ok (.ifCond .eq 52, 3) := by decide +kernel
theorem dX8_kindsOf_42 : decode cX8_kindsOf 42 = .ok (.aload_n 0, 1) := by decide +kernel
theorem dX8_kindsOf_43 : decode cX8_kindsOf 43 = .ok (.getfield 7, 3) := by decide +kernel
theorem dX8_kindsOf_46 : decode cX8_kindsOf 46 = .ok (.iload 6, 2) := by decide +kernel
theorem dX8_kindsOf_48 : decode cX8_kindsOf 48 = .ok (.iaload, 1) := by decide +kernel
theorem dX8_kindsOf_49 : decode cX8_kindsOf 49 = .ok (.iload_n 1, 1) := by decide +kernel
theorem dX8_kindsOf_50 : decode cX8_kindsOf 50 = .ok (.if_icmp .ne 37, 3) := by decide +kernel
theorem dX8_kindsOf_53 : decode cX8_kindsOf 53 = .ok (.iload_n 3, 1) := by decide +kernel
theorem dX8_kindsOf_54 : decode cX8_kindsOf 54 = .ok (.aload_n 0, 1) := by decide +kernel
theorem dX8_kindsOf_55 : decode cX8_kindsOf 55 = .ok (.getfield 7, 3) := by decide +kernel
theorem dX8_kindsOf_58 : decode cX8_kindsOf 58 = .ok (.iload 6, 2) := by decide +kernel
theorem dX8_kindsOf_60 : decode cX8_kindsOf 60 = .ok (.iconst 1, 1) := by decide +kernel
theorem dX8_kindsOf_61 : decode cX8_kindsOf 61 = .ok (.iadd, 1) := by decide +kernel
theorem dX8_kindsOf_62 : decode cX8_kindsOf 62 = .ok (.iaload, 1) := by decide +kernel
theorem dX8_kindsOf_63 : decode cX8_kindsOf 63 = .ok (.aload_n 0, 1) := by decide +kernel
theorem dX8_kindsOf_64 : decode cX8_kindsOf 64 = .ok (.getfield 7, 3) := by decide +kernel
theorem dX8_kindsOf_67 : decode cX8_kindsOf 67 = .ok (.iload 6, 2) := by decide +kernel
theorem dX8_kindsOf_69 : decode cX8_kindsOf 69 = .ok (.iconst 2, 1) := by decide +kernel
theorem dX8_kindsOf_70 : decode cX8_kindsOf 70 = .ok (.iadd, 1) := by decide +kernel
theorem dX8_kindsOf_71 : decode cX8_kindsOf 71 = .ok (.iaload, 1) := by decide +kernel
theorem dX8_kindsOf_72 : decode cX8_kindsOf 72 = .ok (.invokestatic 178, 3) := by decide +kernel
theorem dX8_kindsOf_75 : decode cX8_kindsOf 75 = .ok (.aload_n 0, 1) := by decide +kernel
theorem dX8_kindsOf_76 : decode cX8_kindsOf 76 = .ok (.getfield 7, 3) := by decide +kernel
theorem dX8_kindsOf_79 : decode cX8_kindsOf 79 = .ok (.iload 6, 2) := by decide +kernel
theorem dX8_kindsOf_81 : decode cX8_kindsOf 81 = .ok (.iconst 3, 1) := by decide +kernel
theorem dX8_kindsOf_82 : decode cX8_kindsOf 82 = .ok (.iadd, 1) := by decide +kernel
theorem dX8_kindsOf_83 : decode cX8_kindsOf 83 = .ok (.iaload, 1) := by decide +kernel
theorem dX8_kindsOf_84 : decode cX8_kindsOf 84 = .ok (.if_icmp .ne 7, 3) := by decide +kernel
theorem dX8_kindsOf_87 : decode cX8_kindsOf 87 = .ok (.iconst 1, 1) := by decide +kernel
theorem dX8_kindsOf_88 : decode cX8_kindsOf 88 = .ok (.goto 4, 3) := by decide +kernel
theorem dX8_kindsOf_91 : decode cX8_kindsOf 91 = .ok (.iconst 0, 1) := by decide +kernel
theorem dX8_kindsOf_92 : decode cX8_kindsOf 92 = .ok (.istore 4, 2) := by decide +kernel
theorem dX8_kindsOf_94 : decode cX8_kindsOf 94 = .ok (.iinc 5 1, 3) := by decide +kernel
theorem dX8_kindsOf_97 : decode cX8_kindsOf 97 = .ok (.goto (-81), 3) := by decide +kernel
theorem dX8_kindsOf_100 : decode cX8_kindsOf 100 = .ok (.iload_n 2, 1) := by decide +kernel
theorem dX8_kindsOf_101 : decode cX8_kindsOf 101 = .ok (.iload 4, 2) := by decide +kernel
theorem dX8_kindsOf_103 : decode cX8_kindsOf 103 = .ok (.ifCond .eq 9, 3) := by decide +kernel
theorem dX8_kindsOf_106 : decode cX8_kindsOf 106 = .ok (.iconst 1, 1) := by decide +kernel
theorem dX8_kindsOf_107 : decode cX8_kindsOf 107 = .ok (.iload_n 3, 1) := by decide +kernel
theorem dX8_kindsOf_108 : decode cX8_kindsOf 108 = .ok (.ishl, 1) := by decide +kernel
theorem dX8_kindsOf_109 : decode cX8_kindsOf 109 = .ok (.goto 4, 3) := by decide +kernel
theorem dX8_kindsOf_112 : decode cX8_kindsOf 112 = .ok (.iconst 0, 1) := by decide +kernel
theorem dX8_kindsOf_113 : decode cX8_kindsOf 113 = .ok (.ior, 1) := by decide +kernel
theorem dX8_kindsOf_114 : decode cX8_kindsOf 114 = .ok (.istore_n 2, 1) := by decide +kernel
theorem dX8_kindsOf_115 : decode cX8_kindsOf 115 = .ok (.iinc 3 1, 3) := by decide +kernel
theorem dX8_kindsOf_118 : decode cX8_kindsOf 118 = .ok (.goto (-114), 3) := by decide +kernel
theorem dX8_kindsOf_121 : decode cX8_kindsOf 121 = .ok (.iload_n 2, 1) := by decide +kernel
theorem dX8_kindsOf_122 : decode cX8_kindsOf 122 = .ok (.ireturn, 1) := by decide +kernel
theorem dX8_is_0 : decode cX8_is 0 = .ok (.aload_n 0, 1) := by decide +kernel
theorem dX8_is_1 : decode cX8_is 1 = .ok (.iload_n 1, 1) := by decide +kernel
theorem dX8_is_2 : decode cX8_is 2 = .ok (.invokevirtual 197, 3) := by decide +kernel
theorem dX8_is_5 : decode cX8_is 5 = .ok (.ifCond .eq 11, 3) := by decide +kernel
theorem dX8_is_8 : decode cX8_is 8 = .ok (.aload_n 0, 1) := by decide +kernel
theorem dX8_is_9 : decode cX8_is 9 = .ok (.iload_n 1, 1) := by decide +kernel
theorem dX8_is_10 : decode cX8_is 10 = .ok (.invokevirtual 232, 3) := by decide +kernel
theorem dX8_is_13 : decode cX8_is 13 = .ok (.goto 9, 3) := by decide +kernel
theorem dX8_is_16 : decode cX8_is 16 = .ok (.aload_n 0, 1) := by decide +kernel
theorem dX8_is_17 : decode cX8_is 17 = .ok (.bipush (-2), 2) := by decide +kernel
theorem dX8_is_19 : decode cX8_is 19 = .ok (.invokevirtual 78, 3) := by decide +kernel
theorem dX8_is_22 : decode cX8_is 22 = .ok (.ireturn, 1) := by decide +kernel
theorem dX8_greatest_0 : decode cX8_greatest 0 = .ok (.iconst 0, 1) := by decide +kernel
theorem dX8_greatest_1 : decode cX8_greatest 1 = .ok (.istore_n 2, 1) := by decide +kernel
theorem dX8_greatest_2 : decode cX8_greatest 2 = .ok (.iconst 0, 1) := by decide +kernel
theorem dX8_greatest_3 : decode cX8_greatest 3 = .ok (.istore_n 3, 1) := by decide +kernel
theorem dX8_greatest_4 : decode cX8_greatest 4 = .ok (.iload_n 3, 1) := by decide +kernel
theorem dX8_greatest_5 : decode cX8_greatest 5 = .ok (.bipush 6, 2) := by decide +kernel
theorem dX8_greatest_7 : decode cX8_greatest 7 = .ok (.if_icmp .ge 84, 3) := by decide +kernel
theorem dX8_greatest_10 : decode cX8_greatest 10 = .ok (.iconst 0, 1) := by decide +kernel
theorem dX8_greatest_11 : decode cX8_greatest 11 = .ok (.istore 4, 2) := by decide +kernel
theorem dX8_greatest_13 : decode cX8_greatest 13 = .ok (.iconst 0, 1) := by decide +kernel
theorem dX8_greatest_14 : decode cX8_greatest 14 = .ok (.istore 5, 2) := by decide +kernel
theorem dX8_greatest_16 : decode cX8_greatest 16 = .ok (.iload 5, 2) := by decide +kernel
theorem dX8_greatest_18 : decode cX8_greatest 18 = .ok (.bipush 6, 2) := by decide +kernel
theorem dX8_greatest_20 : decode cX8_greatest 20 = .ok (.if_icmp .ge 52, 3) := by decide +kernel
theorem dX8_greatest_23 : decode cX8_greatest 23 = .ok (.iload 4, 2) := by decide +kernel
theorem dX8_greatest_25 : decode cX8_greatest 25 = .ok (.iload_n 1, 1) := by decide +kernel
theorem dX8_greatest_26 : decode cX8_greatest 26 = .ok (.iload_n 3, 1) := by decide +kernel
theorem dX8_greatest_27 : decode cX8_greatest 27 = .ok (.invokestatic 219, 3) := by decide +kernel
theorem dX8_greatest_30 : decode cX8_greatest 30 = .ok (.ifCond .eq 32, 3) := by decide +kernel
theorem dX8_greatest_33 : decode cX8_greatest 33 = .ok (.iload_n 1, 1) := by decide +kernel
theorem dX8_greatest_34 : decode cX8_greatest 34 = .ok (.iload 5, 2) := by decide +kernel
theorem dX8_greatest_36 : decode cX8_greatest 36 = .ok (.invokestatic 219, 3) := by decide +kernel
theorem dX8_greatest_39 : decode cX8_greatest 39 = .ok (.ifCond .eq 23, 3) := by decide +kernel
theorem dX8_greatest_42 : decode cX8_greatest 42 = .ok (.aload_n 0, 1) := by decide +kernel
theorem dX8_greatest_43 : decode cX8_greatest 43 = .ok (.getfield 45, 3) := by decide +kernel
theorem dX8_greatest_46 : decode cX8_greatest 46 = .ok (.iload_n 3, 1) := by decide +kernel
theorem dX8_greatest_47 : decode cX8_greatest 47 = .ok (.iaload, 1) := by decide +kernel
theorem dX8_greatest_48 : decode cX8_greatest 48 = .ok (.aload_n 0, 1) := by decide +kernel
theorem dX8_greatest_49 : decode cX8_greatest 49 = .ok (.getfield 45, 3) := by decide +kernel
theorem dX8_greatest_52 : decode cX8_greatest 52 = .ok (.iload 5, 2) := by decide +kernel
theorem dX8_greatest_54 : decode cX8_greatest 54 = .ok (.iaload, 1) := by decide +kernel
theorem dX8_greatest_55 : decode cX8_greatest 55 = .ok (.if_icmp .ne 7, 3) := by decide +kernel
theorem dX8_greatest_58 : decode cX8_greatest 58 = .ok (.iconst 1, 1) := by decide +kernel
theorem dX8_greatest_59 : decode cX8_greatest 59 = .ok (.goto 4, 3) := by decide +kernel
theorem dX8_greatest_62 : decode cX8_greatest 62 = .ok (.iconst 0, 1) := by decide +kernel
theorem dX8_greatest_63 : decode cX8_greatest 63 = .ok (.iadd, 1) := by decide +kernel
theorem dX8_greatest_64 : decode cX8_greatest 64 = .ok (.istore 4, 2) := by decide +kernel
theorem dX8_greatest_66 : decode cX8_greatest 66 = .ok (.iinc 5 1, 3) := by decide +kernel
theorem dX8_greatest_69 : decode cX8_greatest 69 = .ok (.goto (-53), 3) := by decide +kernel
theorem dX8_greatest_72 : decode cX8_greatest 72 = .ok (.iload 4, 2) := by decide +kernel
theorem dX8_greatest_74 : decode cX8_greatest 74 = .ok (.iload_n 2, 1) := by decide +kernel
theorem dX8_greatest_75 : decode cX8_greatest 75 = .ok (.if_icmp .le 8, 3) := by decide +kernel
theorem dX8_greatest_78 : decode cX8_greatest 78 = .ok (.iload 4, 2) := by decide +kernel
theorem dX8_greatest_80 : decode cX8_greatest 80 = .ok (.goto 4, 3) := by decide +kernel
theorem dX8_greatest_83 : decode cX8_greatest 83 = .ok (.iload_n 2, 1) := by decide +kernel
theorem dX8_greatest_84 : decode cX8_greatest 84 = .ok (.istore_n 2, 1) := by decide +kernel
theorem dX8_greatest_85 : decode cX8_greatest 85 = .ok (.iinc 3 1, 3) := by decide +kernel
theorem dX8_greatest_88 : decode cX8_greatest 88 = .ok (.goto (-84), 3) := by decide +kernel
theorem dX8_greatest_91 : decode cX8_greatest 91 = .ok (.iload_n 2, 1) := by decide +kernel
theorem dX8_greatest_92 : decode cX8_greatest 92 = .ok (.ireturn, 1) := by decide +kernel
theorem dX8_look_0 : decode cX8_look 0 = .ok (.aload_n 0, 1) := by decide +kernel
theorem dX8_look_1 : decode cX8_look 1 = .ok (.iload_n 1, 1) := by decide +kernel
theorem dX8_look_2 : decode cX8_look 2 = .ok (.invokevirtual 197, 3) := by decide +kernel
theorem dX8_look_5 : decode cX8_look 5 = .ok (.ifCond .ne 10, 3) := by decide +kernel
theorem dX8_look_8 : decode cX8_look 8 = .ok (.aload_n 0, 1) := by decide +kernel
theorem dX8_look_9 : decode cX8_look 9 = .ok (.bipush (-2), 2) := by decide +kernel
theorem dX8_look_11 : decode cX8_look 11 = .ok (.invokevirtual 78, 3) := by decide +kernel
theorem dX8_look_14 : decode cX8_look 14 = .ok (.ireturn, 1) := by decide +kernel
theorem dX8_look_15 : decode cX8_look 15 = .ok (.aload_n 0, 1) := by decide +kernel
theorem dX8_look_16 : decode cX8_look 16 = .ok (.iload_n 1, 1) := by decide +kernel
theorem dX8_look_17 : decode cX8_look 17 = .ok (.invokevirtual 232, 3) := by decide +kernel
theorem dX8_look_20 : decode cX8_look 20 = .ok (.istore_n 2, 1) := by decide +kernel
theorem dX8_look_21 : decode cX8_look 21 = .ok (.iconst (-1), 1) := by decide +kernel
theorem dX8_look_22 : decode cX8_look 22 = .ok (.istore_n 3, 1) := by decide +kernel
theorem dX8_look_23 : decode cX8_look 23 = .ok (.ldc 212, 2) := by decide +kernel
theorem dX8_look_25 : decode cX8_look 25 = .ok (.istore 4, 2) := by decide +kernel
theorem dX8_look_27 : decode cX8_look 27 = .ok (.iconst 0, 1) := by decide +kernel
theorem dX8_look_28 : decode cX8_look 28 = .ok (.istore 5, 2) := by decide +kernel
theorem dX8_look_30 : decode cX8_look 30 = .ok (.iload 5, 2) := by decide +kernel
theorem dX8_look_32 : decode cX8_look 32 = .ok (.bipush 24, 2) := by decide +kernel
theorem dX8_look_34 : decode cX8_look 34 = .ok (.if_icmp .ge 89, 3) := by decide +kernel
theorem dX8_look_37 : decode cX8_look 37 = .ok (.iload_n 2, 1) := by decide +kernel
theorem dX8_look_38 : decode cX8_look 38 = .ok (.ifCond .le 85, 3) := by decide +kernel
theorem dX8_look_41 : decode cX8_look 41 = .ok (.iconst 0, 1) := by decide +kernel
theorem dX8_look_42 : decode cX8_look 42 = .ok (.istore 6, 2) := by decide +kernel
theorem dX8_look_44 : decode cX8_look 44 = .ok (.iload 6, 2) := by decide +kernel
theorem dX8_look_46 : decode cX8_look 46 = .ok (.bipush 6, 2) := by decide +kernel
theorem dX8_look_48 : decode cX8_look 48 = .ok (.if_icmp .ge 32, 3) := by decide +kernel
theorem dX8_look_51 : decode cX8_look 51 = .ok (.aload_n 0, 1) := by decide +kernel
theorem dX8_look_52 : decode cX8_look 52 = .ok (.getfield 45, 3) := by decide +kernel
theorem dX8_look_55 : decode cX8_look 55 = .ok (.iload 6, 2) := by decide +kernel
theorem dX8_look_57 : decode cX8_look 57 = .ok (.iload 6, 2) := by decide +kernel
theorem dX8_look_59 : decode cX8_look 59 = .ok (.aload_n 0, 1) := by decide +kernel
theorem dX8_look_60 : decode cX8_look 60 = .ok (.getfield 7, 3) := by decide +kernel
theorem dX8_look_63 : decode cX8_look 63 = .ok (.bipush 6, 2) := by decide +kernel
theorem dX8_look_65 : decode cX8_look 65 = .ok (.iload_n 1, 1) := by decide +kernel
theorem dX8_look_66 : decode cX8_look 66 = .ok (.iadd, 1) := by decide +kernel
theorem dX8_look_67 : decode cX8_look 67 = .ok (.iaload, 1) := by decide +kernel
theorem dX8_look_68 : decode cX8_look 68 = .ok (.iload 5, 2) := by decide +kernel
theorem dX8_look_70 : decode cX8_look 70 = .ok (.invokestatic 178, 3) := by decide +kernel
theorem dX8_look_73 : decode cX8_look 73 = .ok (.iastore, 1) := by decide +kernel
theorem dX8_look_74 : decode cX8_look 74 = .ok (.iinc 6 1, 3) := by decide +kernel
theorem dX8_look_77 : decode cX8_look 77 = .ok (.goto (-33), 3) := by decide +kernel
theorem dX8_look_80 : decode cX8_look 80 = .ok (.aload_n 0, 1) := by decide +kernel
theorem dX8_look_81 : decode cX8_look 81 = .ok (.iload_n 2, 1) := by decide +kernel
theorem dX8_look_82 : decode cX8_look 82 = .ok (.invokevirtual 235, 3) := by decide +kernel
theorem dX8_look_85 : decode cX8_look 85 = .ok (.istore 6, 2) := by decide +kernel
theorem dX8_look_87 : decode cX8_look 87 = .ok (.iload 6, 2) := by decide +kernel
theorem dX8_look_89 : decode cX8_look 89 = .ok (.iload 4, 2) := by decide +kernel
theorem dX8_look_91 : decode cX8_look 91 = .ok (.if_icmp .ge 8, 3) := by decide +kernel
theorem dX8_look_94 : decode cX8_look 94 = .ok (.iload 5, 2) := by decide +kernel
theorem dX8_look_96 : decode cX8_look 96 = .ok (.goto 4, 3) := by decide +kernel
theorem dX8_look_99 : decode cX8_look 99 = .ok (.iload_n 3, 1) := by decide +kernel
theorem dX8_look_100 : decode cX8_look 100 = .ok (.istore_n 3, 1) := by decide +kernel
theorem dX8_look_101 : decode cX8_look 101 = .ok (.iload 6, 2) := by decide +kernel
theorem dX8_look_103 : decode cX8_look 103 = .ok (.iload 4, 2) := by decide +kernel
theorem dX8_look_105 : decode cX8_look 105 = .ok (.if_icmp .ge 8, 3) := by decide +kernel
theorem dX8_look_108 : decode cX8_look 108 = .ok (.iload 6, 2) := by decide +kernel
theorem dX8_look_110 : decode cX8_look 110 = .ok (.goto 5, 3) := by decide +kernel
theorem dX8_look_113 : decode cX8_look 113 = .ok (.iload 4, 2) := by decide +kernel
theorem dX8_look_115 : decode cX8_look 115 = .ok (.istore 4, 2) := by decide +kernel
theorem dX8_look_117 : decode cX8_look 117 = .ok (.iinc 5 1, 3) := by decide +kernel
theorem dX8_look_120 : decode cX8_look 120 = .ok (.goto (-90), 3) := by decide +kernel
theorem dX8_look_123 : decode cX8_look 123 = .ok (.iload_n 3, 1) := by decide +kernel
theorem dX8_look_124 : decode cX8_look 124 = .ok (.ireturn, 1) := by decide +kernel
theorem dX8_housesOf_0 : decode cX8_housesOf 0 = .ok (.iconst 0, 1) := by decide +kernel
theorem dX8_housesOf_1 : decode cX8_housesOf 1 = .ok (.istore_n 2, 1) := by decide +kernel
theorem dX8_housesOf_2 : decode cX8_housesOf 2 = .ok (.iconst 0, 1) := by decide +kernel
theorem dX8_housesOf_3 : decode cX8_housesOf 3 = .ok (.istore_n 3, 1) := by decide +kernel
theorem dX8_housesOf_4 : decode cX8_housesOf 4 = .ok (.iload_n 3, 1) := by decide +kernel
theorem dX8_housesOf_5 : decode cX8_housesOf 5 = .ok (.bipush 6, 2) := by decide +kernel
theorem dX8_housesOf_7 : decode cX8_housesOf 7 = .ok (.if_icmp .ge 114, 3) := by decide +kernel
theorem dX8_housesOf_10 : decode cX8_housesOf 10 = .ok (.iconst 1, 1) := by decide +kernel
theorem dX8_housesOf_11 : decode cX8_housesOf 11 = .ok (.istore 4, 2) := by decide +kernel
theorem dX8_housesOf_13 : decode cX8_housesOf 13 = .ok (.iconst 0, 1) := by decide +kernel
theorem dX8_housesOf_14 : decode cX8_housesOf 14 = .ok (.istore 5, 2) := by decide +kernel
theorem dX8_housesOf_16 : decode cX8_housesOf 16 = .ok (.iload 5, 2) := by decide +kernel
theorem dX8_housesOf_18 : decode cX8_housesOf 18 = .ok (.aload_n 0, 1) := by decide +kernel
theorem dX8_housesOf_19 : decode cX8_housesOf 19 = .ok (.getfield 7, 3) := by decide +kernel
theorem dX8_housesOf_22 : decode cX8_housesOf 22 = .ok (.bipush 56, 2) := by decide +kernel
theorem dX8_housesOf_24 : decode cX8_housesOf 24 = .ok (.iaload, 1) := by decide +kernel
theorem dX8_housesOf_25 : decode cX8_housesOf 25 = .ok (.if_icmp .ge 75, 3) := by decide +kernel
theorem dX8_housesOf_28 : decode cX8_housesOf 28 = .ok (.bipush 57, 2) := by decide +kernel
theorem dX8_housesOf_30 : decode cX8_housesOf 30 = .ok (.iconst 4, 1) := by decide +kernel
theorem dX8_housesOf_31 : decode cX8_housesOf 31 = .ok (.iload 5, 2) := by decide +kernel
theorem dX8_housesOf_33 : decode cX8_housesOf 33 = .ok (.imul, 1) := by decide +kernel
theorem dX8_housesOf_34 : decode cX8_housesOf 34 = .ok (.iadd, 1) := by decide +kernel
theorem dX8_housesOf_35 : decode cX8_housesOf 35 = .ok (.istore 6, 2) := by decide +kernel
theorem dX8_housesOf_37 : decode cX8_housesOf 37 = .ok (.iload 4, 2) := by decide +kernel
theorem dX8_housesOf_39 : decode cX8_housesOf 39 = .ok (.ifCond .eq 52, 3) := by decide +kernel
theorem dX8_housesOf_42 : decode cX8_housesOf 42 = .ok (.aload_n 0, 1) := by decide +kernel
theorem dX8_housesOf_43 : decode cX8_housesOf 43 = .ok (.getfield 7, 3) := by decide +kernel
theorem dX8_housesOf_46 : decode cX8_housesOf 46 = .ok (.iload 6, 2) := by decide +kernel
theorem dX8_housesOf_48 : decode cX8_housesOf 48 = .ok (.iaload, 1) := by decide +kernel
theorem dX8_housesOf_49 : decode cX8_housesOf 49 = .ok (.iload_n 1, 1) := by decide +kernel
theorem dX8_housesOf_50 : decode cX8_housesOf 50 = .ok (.if_icmp .ne 37, 3) := by decide +kernel
theorem dX8_housesOf_53 : decode cX8_housesOf 53 = .ok (.iload_n 3, 1) := by decide +kernel
theorem dX8_housesOf_54 : decode cX8_housesOf 54 = .ok (.aload_n 0, 1) := by decide +kernel
theorem dX8_housesOf_55 : decode cX8_housesOf 55 = .ok (.getfield 7, 3) := by decide +kernel
theorem dX8_housesOf_58 : decode cX8_housesOf 58 = .ok (.iload 6, 2) := by decide +kernel
theorem dX8_housesOf_60 : decode cX8_housesOf 60 = .ok (.iconst 1, 1) := by decide +kernel
theorem dX8_housesOf_61 : decode cX8_housesOf 61 = .ok (.iadd, 1) := by decide +kernel
theorem dX8_housesOf_62 : decode cX8_housesOf 62 = .ok (.iaload, 1) := by decide +kernel
theorem dX8_housesOf_63 : decode cX8_housesOf 63 = .ok (.aload_n 0, 1) := by decide +kernel
theorem dX8_housesOf_64 : decode cX8_housesOf 64 = .ok (.getfield 7, 3) := by decide +kernel
theorem dX8_housesOf_67 : decode cX8_housesOf 67 = .ok (.iload 6, 2) := by decide +kernel
theorem dX8_housesOf_69 : decode cX8_housesOf 69 = .ok (.iconst 2, 1) := by decide +kernel
theorem dX8_housesOf_70 : decode cX8_housesOf 70 = .ok (.iadd, 1) := by decide +kernel
theorem dX8_housesOf_71 : decode cX8_housesOf 71 = .ok (.iaload, 1) := by decide +kernel
theorem dX8_housesOf_72 : decode cX8_housesOf 72 = .ok (.invokestatic 185, 3) := by decide +kernel
theorem dX8_housesOf_75 : decode cX8_housesOf 75 = .ok (.aload_n 0, 1) := by decide +kernel
theorem dX8_housesOf_76 : decode cX8_housesOf 76 = .ok (.getfield 7, 3) := by decide +kernel
theorem dX8_housesOf_79 : decode cX8_housesOf 79 = .ok (.iload 6, 2) := by decide +kernel
theorem dX8_housesOf_81 : decode cX8_housesOf 81 = .ok (.iconst 3, 1) := by decide +kernel
theorem dX8_housesOf_82 : decode cX8_housesOf 82 = .ok (.iadd, 1) := by decide +kernel
theorem dX8_housesOf_83 : decode cX8_housesOf 83 = .ok (.iaload, 1) := by decide +kernel
theorem dX8_housesOf_84 : decode cX8_housesOf 84 = .ok (.if_icmp .ne 7, 3) := by decide +kernel
theorem dX8_housesOf_87 : decode cX8_housesOf 87 = .ok (.iconst 1, 1) := by decide +kernel
theorem dX8_housesOf_88 : decode cX8_housesOf 88 = .ok (.goto 4, 3) := by decide +kernel
theorem dX8_housesOf_91 : decode cX8_housesOf 91 = .ok (.iconst 0, 1) := by decide +kernel
theorem dX8_housesOf_92 : decode cX8_housesOf 92 = .ok (.istore 4, 2) := by decide +kernel
theorem dX8_housesOf_94 : decode cX8_housesOf 94 = .ok (.iinc 5 1, 3) := by decide +kernel
theorem dX8_housesOf_97 : decode cX8_housesOf 97 = .ok (.goto (-81), 3) := by decide +kernel
theorem dX8_housesOf_100 : decode cX8_housesOf 100 = .ok (.iload_n 2, 1) := by decide +kernel
theorem dX8_housesOf_101 : decode cX8_housesOf 101 = .ok (.iload 4, 2) := by decide +kernel
theorem dX8_housesOf_103 : decode cX8_housesOf 103 = .ok (.ifCond .eq 9, 3) := by decide +kernel
theorem dX8_housesOf_106 : decode cX8_housesOf 106 = .ok (.iconst 1, 1) := by decide +kernel
theorem dX8_housesOf_107 : decode cX8_housesOf 107 = .ok (.iload_n 3, 1) := by decide +kernel
theorem dX8_housesOf_108 : decode cX8_housesOf 108 = .ok (.ishl, 1) := by decide +kernel
theorem dX8_housesOf_109 : decode cX8_housesOf 109 = .ok (.goto 4, 3) := by decide +kernel
theorem dX8_housesOf_112 : decode cX8_housesOf 112 = .ok (.iconst 0, 1) := by decide +kernel
theorem dX8_housesOf_113 : decode cX8_housesOf 113 = .ok (.ior, 1) := by decide +kernel
theorem dX8_housesOf_114 : decode cX8_housesOf 114 = .ok (.istore_n 2, 1) := by decide +kernel
theorem dX8_housesOf_115 : decode cX8_housesOf 115 = .ok (.iinc 3 1, 3) := by decide +kernel
theorem dX8_housesOf_118 : decode cX8_housesOf 118 = .ok (.goto (-114), 3) := by decide +kernel
theorem dX8_housesOf_121 : decode cX8_housesOf 121 = .ok (.iload_n 2, 1) := by decide +kernel
theorem dX8_housesOf_122 : decode cX8_housesOf 122 = .ok (.ireturn, 1) := by decide +kernel
theorem dX8_kinds_0 : decode cX8_kinds 0 = .ok (.iload_n 1, 1) := by decide +kernel
theorem dX8_kinds_1 : decode cX8_kinds 1 = .ok (.invokestatic 81, 3) := by decide +kernel
theorem dX8_kinds_4 : decode cX8_kinds 4 = .ok (.ifCond .eq 11, 3) := by decide +kernel
theorem dX8_kinds_7 : decode cX8_kinds 7 = .ok (.aload_n 0, 1) := by decide +kernel
theorem dX8_kinds_8 : decode cX8_kinds 8 = .ok (.iload_n 1, 1) := by decide +kernel
theorem dX8_kinds_9 : decode cX8_kinds 9 = .ok (.invokevirtual 238, 3) := by decide +kernel
theorem dX8_kinds_12 : decode cX8_kinds 12 = .ok (.goto 9, 3) := by decide +kernel
theorem dX8_kinds_15 : decode cX8_kinds 15 = .ok (.aload_n 0, 1) := by decide +kernel
theorem dX8_kinds_16 : decode cX8_kinds 16 = .ok (.bipush (-2), 2) := by decide +kernel
theorem dX8_kinds_18 : decode cX8_kinds 18 = .ok (.invokevirtual 78, 3) := by decide +kernel
theorem dX8_kinds_21 : decode cX8_kinds 21 = .ok (.ireturn, 1) := by decide +kernel
theorem dX8_ask_0 : decode cX8_ask 0 = .ok (.iload_n 1, 1) := by decide +kernel
theorem dX8_ask_1 : decode cX8_ask 1 = .ok (.invokestatic 81, 3) := by decide +kernel
theorem dX8_ask_4 : decode cX8_ask 4 = .ok (.ifCond .ne 10, 3) := by decide +kernel
theorem dX8_ask_7 : decode cX8_ask 7 = .ok (.aload_n 0, 1) := by decide +kernel
theorem dX8_ask_8 : decode cX8_ask 8 = .ok (.bipush (-2), 2) := by decide +kernel
theorem dX8_ask_10 : decode cX8_ask 10 = .ok (.invokevirtual 78, 3) := by decide +kernel
theorem dX8_ask_13 : decode cX8_ask 13 = .ok (.ireturn, 1) := by decide +kernel
theorem dX8_ask_14 : decode cX8_ask 14 = .ok (.aload_n 0, 1) := by decide +kernel
theorem dX8_ask_15 : decode cX8_ask 15 = .ok (.iload_n 1, 1) := by decide +kernel
theorem dX8_ask_16 : decode cX8_ask 16 = .ok (.invokevirtual 238, 3) := by decide +kernel
theorem dX8_ask_19 : decode cX8_ask 19 = .ok (.istore_n 2, 1) := by decide +kernel
theorem dX8_ask_20 : decode cX8_ask 20 = .ok (.iconst (-1), 1) := by decide +kernel
theorem dX8_ask_21 : decode cX8_ask 21 = .ok (.istore_n 3, 1) := by decide +kernel
theorem dX8_ask_22 : decode cX8_ask 22 = .ok (.ldc 212, 2) := by decide +kernel
theorem dX8_ask_24 : decode cX8_ask 24 = .ok (.istore 4, 2) := by decide +kernel
theorem dX8_ask_26 : decode cX8_ask 26 = .ok (.iconst 0, 1) := by decide +kernel
theorem dX8_ask_27 : decode cX8_ask 27 = .ok (.istore 5, 2) := by decide +kernel
theorem dX8_ask_29 : decode cX8_ask 29 = .ok (.iload 5, 2) := by decide +kernel
theorem dX8_ask_31 : decode cX8_ask 31 = .ok (.sipush 200, 3) := by decide +kernel
theorem dX8_ask_34 : decode cX8_ask 34 = .ok (.if_icmp .ge 88, 3) := by decide +kernel
theorem dX8_ask_37 : decode cX8_ask 37 = .ok (.iload_n 2, 1) := by decide +kernel
theorem dX8_ask_38 : decode cX8_ask 38 = .ok (.ifCond .le 84, 3) := by decide +kernel
theorem dX8_ask_41 : decode cX8_ask 41 = .ok (.iconst 0, 1) := by decide +kernel
theorem dX8_ask_42 : decode cX8_ask 42 = .ok (.istore 6, 2) := by decide +kernel
theorem dX8_ask_44 : decode cX8_ask 44 = .ok (.iload 6, 2) := by decide +kernel
theorem dX8_ask_46 : decode cX8_ask 46 = .ok (.bipush 6, 2) := by decide +kernel
theorem dX8_ask_48 : decode cX8_ask 48 = .ok (.if_icmp .ge 31, 3) := by decide +kernel
theorem dX8_ask_51 : decode cX8_ask 51 = .ok (.aload_n 0, 1) := by decide +kernel
theorem dX8_ask_52 : decode cX8_ask 52 = .ok (.getfield 45, 3) := by decide +kernel
theorem dX8_ask_55 : decode cX8_ask 55 = .ok (.iload 6, 2) := by decide +kernel
theorem dX8_ask_57 : decode cX8_ask 57 = .ok (.iload 6, 2) := by decide +kernel
theorem dX8_ask_59 : decode cX8_ask 59 = .ok (.iload 5, 2) := by decide +kernel
theorem dX8_ask_61 : decode cX8_ask 61 = .ok (.bipush 100, 2) := by decide +kernel
theorem dX8_ask_63 : decode cX8_ask 63 = .ok (.irem, 1) := by decide +kernel
theorem dX8_ask_64 : decode cX8_ask 64 = .ok (.iload 5, 2) := by decide +kernel
theorem dX8_ask_66 : decode cX8_ask 66 = .ok (.bipush 100, 2) := by decide +kernel
theorem dX8_ask_68 : decode cX8_ask 68 = .ok (.idiv, 1) := by decide +kernel
theorem dX8_ask_69 : decode cX8_ask 69 = .ok (.invokestatic 185, 3) := by decide +kernel
theorem dX8_ask_72 : decode cX8_ask 72 = .ok (.iastore, 1) := by decide +kernel
theorem dX8_ask_73 : decode cX8_ask 73 = .ok (.iinc 6 1, 3) := by decide +kernel
theorem dX8_ask_76 : decode cX8_ask 76 = .ok (.goto (-32), 3) := by decide +kernel
theorem dX8_ask_79 : decode cX8_ask 79 = .ok (.aload_n 0, 1) := by decide +kernel
theorem dX8_ask_80 : decode cX8_ask 80 = .ok (.iload_n 2, 1) := by decide +kernel
theorem dX8_ask_81 : decode cX8_ask 81 = .ok (.invokevirtual 235, 3) := by decide +kernel
theorem dX8_ask_84 : decode cX8_ask 84 = .ok (.istore 6, 2) := by decide +kernel
theorem dX8_ask_86 : decode cX8_ask 86 = .ok (.iload 6, 2) := by decide +kernel
theorem dX8_ask_88 : decode cX8_ask 88 = .ok (.iload 4, 2) := by decide +kernel
theorem dX8_ask_90 : decode cX8_ask 90 = .ok (.if_icmp .ge 8, 3) := by decide +kernel
theorem dX8_ask_93 : decode cX8_ask 93 = .ok (.iload 5, 2) := by decide +kernel
theorem dX8_ask_95 : decode cX8_ask 95 = .ok (.goto 4, 3) := by decide +kernel
theorem dX8_ask_98 : decode cX8_ask 98 = .ok (.iload_n 3, 1) := by decide +kernel
theorem dX8_ask_99 : decode cX8_ask 99 = .ok (.istore_n 3, 1) := by decide +kernel
theorem dX8_ask_100 : decode cX8_ask 100 = .ok (.iload 6, 2) := by decide +kernel
theorem dX8_ask_102 : decode cX8_ask 102 = .ok (.iload 4, 2) := by decide +kernel
theorem dX8_ask_104 : decode cX8_ask 104 = .ok (.if_icmp .ge 8, 3) := by decide +kernel
theorem dX8_ask_107 : decode cX8_ask 107 = .ok (.iload 6, 2) := by decide +kernel
theorem dX8_ask_109 : decode cX8_ask 109 = .ok (.goto 5, 3) := by decide +kernel
theorem dX8_ask_112 : decode cX8_ask 112 = .ok (.iload 4, 2) := by decide +kernel
theorem dX8_ask_114 : decode cX8_ask 114 = .ok (.istore 4, 2) := by decide +kernel
theorem dX8_ask_116 : decode cX8_ask 116 = .ok (.iinc 5 1, 3) := by decide +kernel
theorem dX8_ask_119 : decode cX8_ask 119 = .ok (.goto (-90), 3) := by decide +kernel
theorem dX8_ask_122 : decode cX8_ask 122 = .ok (.iload_n 3, 1) := by decide +kernel
theorem dX8_ask_123 : decode cX8_ask 123 = .ok (.ireturn, 1) := by decide +kernel
theorem dX8_getsBy_0 : decode cX8_getsBy 0 = .ok (.iconst 0, 1) := by decide +kernel
theorem dX8_getsBy_1 : decode cX8_getsBy 1 = .ok (.istore 4, 2) := by decide +kernel
theorem dX8_getsBy_3 : decode cX8_getsBy 3 = .ok (.aload_n 0, 1) := by decide +kernel
theorem dX8_getsBy_4 : decode cX8_getsBy 4 = .ok (.getfield 7, 3) := by decide +kernel
theorem dX8_getsBy_7 : decode cX8_getsBy 7 = .ok (.bipush 17, 2) := by decide +kernel
theorem dX8_getsBy_9 : decode cX8_getsBy 9 = .ok (.iaload, 1) := by decide +kernel
theorem dX8_getsBy_10 : decode cX8_getsBy 10 = .ok (.bipush 24, 2) := by decide +kernel
theorem dX8_getsBy_12 : decode cX8_getsBy 12 = .ok (.idiv, 1) := by decide +kernel
theorem dX8_getsBy_13 : decode cX8_getsBy 13 = .ok (.istore 5, 2) := by decide +kernel
theorem dX8_getsBy_15 : decode cX8_getsBy 15 = .ok (.iconst 0, 1) := by decide +kernel
theorem dX8_getsBy_16 : decode cX8_getsBy 16 = .ok (.istore 6, 2) := by decide +kernel
theorem dX8_getsBy_18 : decode cX8_getsBy 18 = .ok (.iload 6, 2) := by decide +kernel
theorem dX8_getsBy_20 : decode cX8_getsBy 20 = .ok (.aload_n 0, 1) := by decide +kernel
theorem dX8_getsBy_21 : decode cX8_getsBy 21 = .ok (.getfield 7, 3) := by decide +kernel
theorem dX8_getsBy_24 : decode cX8_getsBy 24 = .ok (.iconst 0, 1) := by decide +kernel
theorem dX8_getsBy_25 : decode cX8_getsBy 25 = .ok (.iaload, 1) := by decide +kernel
theorem dX8_getsBy_26 : decode cX8_getsBy 26 = .ok (.if_icmp .ge 82, 3) := by decide +kernel
theorem dX8_getsBy_29 : decode cX8_getsBy 29 = .ok (.aload_n 0, 1) := by decide +kernel
theorem dX8_getsBy_30 : decode cX8_getsBy 30 = .ok (.iconst 0, 1) := by decide +kernel
theorem dX8_getsBy_31 : decode cX8_getsBy 31 = .ok (.iload 6, 2) := by decide +kernel
theorem dX8_getsBy_33 : decode cX8_getsBy 33 = .ok (.aload_n 0, 1) := by decide +kernel
theorem dX8_getsBy_34 : decode cX8_getsBy 34 = .ok (.getfield 7, 3) := by decide +kernel
theorem dX8_getsBy_37 : decode cX8_getsBy 37 = .ok (.bipush 17, 2) := by decide +kernel
theorem dX8_getsBy_39 : decode cX8_getsBy 39 = .ok (.iaload, 1) := by decide +kernel
theorem dX8_getsBy_40 : decode cX8_getsBy 40 = .ok (.invokevirtual 182, 3) := by decide +kernel
theorem dX8_getsBy_43 : decode cX8_getsBy 43 = .ok (.istore 7, 2) := by decide +kernel
theorem dX8_getsBy_45 : decode cX8_getsBy 45 = .ok (.iload_n 2, 1) := by decide +kernel
theorem dX8_getsBy_46 : decode cX8_getsBy 46 = .ok (.iload 7, 2) := by decide +kernel
theorem dX8_getsBy_48 : decode cX8_getsBy 48 = .ok (.iload 5, 2) := by decide +kernel
theorem dX8_getsBy_50 : decode cX8_getsBy 50 = .ok (.invokestatic 185, 3) := by decide +kernel
theorem dX8_getsBy_53 : decode cX8_getsBy 53 = .ok (.istore 8, 2) := by decide +kernel
theorem dX8_getsBy_55 : decode cX8_getsBy 55 = .ok (.iload_n 3, 1) := by decide +kernel
theorem dX8_getsBy_56 : decode cX8_getsBy 56 = .ok (.iload 7, 2) := by decide +kernel
theorem dX8_getsBy_58 : decode cX8_getsBy 58 = .ok (.iload 5, 2) := by decide +kernel
theorem dX8_getsBy_60 : decode cX8_getsBy 60 = .ok (.invokestatic 185, 3) := by decide +kernel
theorem dX8_getsBy_63 : decode cX8_getsBy 63 = .ok (.istore 9, 2) := by decide +kernel
theorem dX8_getsBy_65 : decode cX8_getsBy 65 = .ok (.iload 4, 2) := by decide +kernel
theorem dX8_getsBy_67 : decode cX8_getsBy 67 = .ok (.iload 8, 2) := by decide +kernel
theorem dX8_getsBy_69 : decode cX8_getsBy 69 = .ok (.iload 9, 2) := by decide +kernel
theorem dX8_getsBy_71 : decode cX8_getsBy 71 = .ok (.iadd, 1) := by decide +kernel
theorem dX8_getsBy_72 : decode cX8_getsBy 72 = .ok (.iconst 2, 1) := by decide +kernel
theorem dX8_getsBy_73 : decode cX8_getsBy 73 = .ok (.aload_n 0, 1) := by decide +kernel
theorem dX8_getsBy_74 : decode cX8_getsBy 74 = .ok (.iconst 0, 1) := by decide +kernel
theorem dX8_getsBy_75 : decode cX8_getsBy 75 = .ok (.iload 6, 2) := by decide +kernel
theorem dX8_getsBy_77 : decode cX8_getsBy 77 = .ok (.invokevirtual 194, 3) := by decide +kernel
theorem dX8_getsBy_80 : decode cX8_getsBy 80 = .ok (.imul, 1) := by decide +kernel
theorem dX8_getsBy_81 : decode cX8_getsBy 81 = .ok (.if_icmp .le 7, 3) := by decide +kernel
theorem dX8_getsBy_84 : decode cX8_getsBy 84 = .ok (.iconst 0, 1) := by decide +kernel
theorem dX8_getsBy_85 : decode cX8_getsBy 85 = .ok (.goto 14, 3) := by decide +kernel
theorem dX8_getsBy_88 : decode cX8_getsBy 88 = .ok (.iload_n 1, 1) := by decide +kernel
theorem dX8_getsBy_89 : decode cX8_getsBy 89 = .ok (.ifCond .ne 8, 3) := by decide +kernel
theorem dX8_getsBy_92 : decode cX8_getsBy 92 = .ok (.iload 8, 2) := by decide +kernel
theorem dX8_getsBy_94 : decode cX8_getsBy 94 = .ok (.goto 5, 3) := by decide +kernel
theorem dX8_getsBy_97 : decode cX8_getsBy 97 = .ok (.iload 9, 2) := by decide +kernel
theorem dX8_getsBy_99 : decode cX8_getsBy 99 = .ok (.iadd, 1) := by decide +kernel
theorem dX8_getsBy_100 : decode cX8_getsBy 100 = .ok (.istore 4, 2) := by decide +kernel
theorem dX8_getsBy_102 : decode cX8_getsBy 102 = .ok (.iinc 6 1, 3) := by decide +kernel
theorem dX8_getsBy_105 : decode cX8_getsBy 105 = .ok (.goto (-87), 3) := by decide +kernel
theorem dX8_getsBy_108 : decode cX8_getsBy 108 = .ok (.iload 4, 2) := by decide +kernel
theorem dX8_getsBy_110 : decode cX8_getsBy 110 = .ok (.ireturn, 1) := by decide +kernel
theorem dX8_rests_0 : decode cX8_rests 0 = .ok (.iconst 1, 1) := by decide +kernel
theorem dX8_rests_1 : decode cX8_rests 1 = .ok (.istore_n 3, 1) := by decide +kernel
theorem dX8_rests_2 : decode cX8_rests 2 = .ok (.iconst 0, 1) := by decide +kernel
theorem dX8_rests_3 : decode cX8_rests 3 = .ok (.istore 4, 2) := by decide +kernel
theorem dX8_rests_5 : decode cX8_rests 5 = .ok (.iload 4, 2) := by decide +kernel
theorem dX8_rests_7 : decode cX8_rests 7 = .ok (.bipush 6, 2) := by decide +kernel
theorem dX8_rests_9 : decode cX8_rests 9 = .ok (.if_icmp .ge 55, 3) := by decide +kernel
theorem dX8_rests_12 : decode cX8_rests 12 = .ok (.iload_n 3, 1) := by decide +kernel
theorem dX8_rests_13 : decode cX8_rests 13 = .ok (.ifCond .eq 43, 3) := by decide +kernel
theorem dX8_rests_16 : decode cX8_rests 16 = .ok (.aload_n 0, 1) := by decide +kernel
theorem dX8_rests_17 : decode cX8_rests 17 = .ok (.iconst 0, 1) := by decide +kernel
theorem dX8_rests_18 : decode cX8_rests 18 = .ok (.iload 4, 2) := by decide +kernel
theorem dX8_rests_20 : decode cX8_rests 20 = .ok (.iload_n 2, 1) := by decide +kernel
theorem dX8_rests_21 : decode cX8_rests 21 = .ok (.invokevirtual 241, 3) := by decide +kernel
theorem dX8_rests_24 : decode cX8_rests 24 = .ok (.aload_n 0, 1) := by decide +kernel
theorem dX8_rests_25 : decode cX8_rests 25 = .ok (.iconst 0, 1) := by decide +kernel
theorem dX8_rests_26 : decode cX8_rests 26 = .ok (.iload_n 1, 1) := by decide +kernel
theorem dX8_rests_27 : decode cX8_rests 27 = .ok (.iload_n 2, 1) := by decide +kernel
theorem dX8_rests_28 : decode cX8_rests 28 = .ok (.invokevirtual 241, 3) := by decide +kernel
theorem dX8_rests_31 : decode cX8_rests 31 = .ok (.if_icmp .gt 25, 3) := by decide +kernel
theorem dX8_rests_34 : decode cX8_rests 34 = .ok (.aload_n 0, 1) := by decide +kernel
theorem dX8_rests_35 : decode cX8_rests 35 = .ok (.iconst 1, 1) := by decide +kernel
theorem dX8_rests_36 : decode cX8_rests 36 = .ok (.iload_n 1, 1) := by decide +kernel
theorem dX8_rests_37 : decode cX8_rests 37 = .ok (.iload 4, 2) := by decide +kernel
theorem dX8_rests_39 : decode cX8_rests 39 = .ok (.invokevirtual 241, 3) := by decide +kernel
theorem dX8_rests_42 : decode cX8_rests 42 = .ok (.aload_n 0, 1) := by decide +kernel
theorem dX8_rests_43 : decode cX8_rests 43 = .ok (.iconst 1, 1) := by decide +kernel
theorem dX8_rests_44 : decode cX8_rests 44 = .ok (.iload_n 1, 1) := by decide +kernel
theorem dX8_rests_45 : decode cX8_rests 45 = .ok (.iload_n 2, 1) := by decide +kernel
theorem dX8_rests_46 : decode cX8_rests 46 = .ok (.invokevirtual 241, 3) := by decide +kernel
theorem dX8_rests_49 : decode cX8_rests 49 = .ok (.if_icmp .gt 7, 3) := by decide +kernel
theorem dX8_rests_52 : decode cX8_rests 52 = .ok (.iconst 1, 1) := by decide +kernel
theorem dX8_rests_53 : decode cX8_rests 53 = .ok (.goto 4, 3) := by decide +kernel
theorem dX8_rests_56 : decode cX8_rests 56 = .ok (.iconst 0, 1) := by decide +kernel
theorem dX8_rests_57 : decode cX8_rests 57 = .ok (.istore_n 3, 1) := by decide +kernel
theorem dX8_rests_58 : decode cX8_rests 58 = .ok (.iinc 4 1, 3) := by decide +kernel
theorem dX8_rests_61 : decode cX8_rests 61 = .ok (.goto (-56), 3) := by decide +kernel
theorem dX8_rests_64 : decode cX8_rests 64 = .ok (.iload_n 3, 1) := by decide +kernel
theorem dX8_rests_65 : decode cX8_rests 65 = .ok (.ireturn, 1) := by decide +kernel
theorem dX8_ends_0 : decode cX8_ends 0 = .ok (.iload_n 1, 1) := by decide +kernel
theorem dX8_ends_1 : decode cX8_ends 1 = .ok (.iconst (-1), 1) := by decide +kernel
theorem dX8_ends_2 : decode cX8_ends 2 = .ok (.if_icmp .ge 10, 3) := by decide +kernel
theorem dX8_ends_5 : decode cX8_ends 5 = .ok (.aload_n 0, 1) := by decide +kernel
theorem dX8_ends_6 : decode cX8_ends 6 = .ok (.bipush (-10), 2) := by decide +kernel
theorem dX8_ends_8 : decode cX8_ends 8 = .ok (.invokevirtual 78, 3) := by decide +kernel
theorem dX8_ends_11 : decode cX8_ends 11 = .ok (.ireturn, 1) := by decide +kernel
theorem dX8_ends_12 : decode cX8_ends 12 = .ok (.iconst 0, 1) := by decide +kernel
theorem dX8_ends_13 : decode cX8_ends 13 = .ok (.istore_n 2, 1) := by decide +kernel
theorem dX8_ends_14 : decode cX8_ends 14 = .ok (.iconst 0, 1) := by decide +kernel
theorem dX8_ends_15 : decode cX8_ends 15 = .ok (.istore_n 3, 1) := by decide +kernel
theorem dX8_ends_16 : decode cX8_ends 16 = .ok (.iload_n 3, 1) := by decide +kernel
theorem dX8_ends_17 : decode cX8_ends 17 = .ok (.bipush 6, 2) := by decide +kernel
theorem dX8_ends_19 : decode cX8_ends 19 = .ok (.if_icmp .ge 51, 3) := by decide +kernel
theorem dX8_ends_22 : decode cX8_ends 22 = .ok (.iconst 0, 1) := by decide +kernel
theorem dX8_ends_23 : decode cX8_ends 23 = .ok (.istore 4, 2) := by decide +kernel
theorem dX8_ends_25 : decode cX8_ends 25 = .ok (.iload 4, 2) := by decide +kernel
theorem dX8_ends_27 : decode cX8_ends 27 = .ok (.bipush 6, 2) := by decide +kernel
theorem dX8_ends_29 : decode cX8_ends 29 = .ok (.if_icmp .ge 35, 3) := by decide +kernel
theorem dX8_ends_32 : decode cX8_ends 32 = .ok (.aload_n 0, 1) := by decide +kernel
theorem dX8_ends_33 : decode cX8_ends 33 = .ok (.iload_n 3, 1) := by decide +kernel
theorem dX8_ends_34 : decode cX8_ends 34 = .ok (.iload 4, 2) := by decide +kernel
theorem dX8_ends_36 : decode cX8_ends 36 = .ok (.invokevirtual 244, 3) := by decide +kernel
theorem dX8_ends_39 : decode cX8_ends 39 = .ok (.ifCond .eq 19, 3) := by decide +kernel
theorem dX8_ends_42 : decode cX8_ends 42 = .ok (.iload_n 2, 1) := by decide +kernel
theorem dX8_ends_43 : decode cX8_ends 43 = .ok (.iload_n 1, 1) := by decide +kernel
theorem dX8_ends_44 : decode cX8_ends 44 = .ok (.if_icmp .ne 11, 3) := by decide +kernel
theorem dX8_ends_47 : decode cX8_ends 47 = .ok (.bipush 10, 2) := by decide +kernel
theorem dX8_ends_49 : decode cX8_ends 49 = .ok (.iload_n 3, 1) := by decide +kernel
theorem dX8_ends_50 : decode cX8_ends 50 = .ok (.imul, 1) := by decide +kernel
theorem dX8_ends_51 : decode cX8_ends 51 = .ok (.iload 4, 2) := by decide +kernel
theorem dX8_ends_53 : decode cX8_ends 53 = .ok (.iadd, 1) := by decide +kernel
theorem dX8_ends_54 : decode cX8_ends 54 = .ok (.ireturn, 1) := by decide +kernel
theorem dX8_ends_55 : decode cX8_ends 55 = .ok (.iinc 2 1, 3) := by decide +kernel
theorem dX8_ends_58 : decode cX8_ends 58 = .ok (.iinc 4 1, 3) := by decide +kernel
theorem dX8_ends_61 : decode cX8_ends 61 = .ok (.goto (-36), 3) := by decide +kernel
theorem dX8_ends_64 : decode cX8_ends 64 = .ok (.iinc 3 1, 3) := by decide +kernel
theorem dX8_ends_67 : decode cX8_ends 67 = .ok (.goto (-51), 3) := by decide +kernel
theorem dX8_ends_70 : decode cX8_ends 70 = .ok (.iload_n 1, 1) := by decide +kernel
theorem dX8_ends_71 : decode cX8_ends 71 = .ok (.iconst (-1), 1) := by decide +kernel
theorem dX8_ends_72 : decode cX8_ends 72 = .ok (.if_icmp .ne 7, 3) := by decide +kernel
theorem dX8_ends_75 : decode cX8_ends 75 = .ok (.iload_n 2, 1) := by decide +kernel
theorem dX8_ends_76 : decode cX8_ends 76 = .ok (.goto 5, 3) := by decide +kernel
theorem dX8_ends_79 : decode cX8_ends 79 = .ok (.bipush (-5), 2) := by decide +kernel
theorem dX8_ends_81 : decode cX8_ends 81 = .ok (.ireturn, 1) := by decide +kernel
theorem dX8_scissors_0 : decode cX8_scissors 0 = .ok (.iload_n 1, 1) := by decide +kernel
theorem dX8_scissors_1 : decode cX8_scissors 1 = .ok (.i2l, 1) := by decide +kernel
theorem dX8_scissors_2 : decode cX8_scissors 2 = .ok (.lconst 0, 1) := by decide +kernel
theorem dX8_scissors_3 : decode cX8_scissors 3 = .ok (.ldc2_w 247, 3) := by decide +kernel
theorem dX8_scissors_6 : decode cX8_scissors 6 = .ok (.invokestatic 56, 3) := by decide +kernel
theorem dX8_scissors_9 : decode cX8_scissors 9 = .ok (.ifCond .ne 10, 3) := by decide +kernel
theorem dX8_scissors_12 : decode cX8_scissors 12 = .ok (.aload_n 0, 1) := by decide +kernel
theorem dX8_scissors_13 : decode cX8_scissors 13 = .ok (.bipush (-2), 2) := by decide +kernel
theorem dX8_scissors_15 : decode cX8_scissors 15 = .ok (.invokevirtual 78, 3) := by decide +kernel
theorem dX8_scissors_18 : decode cX8_scissors 18 = .ok (.ireturn, 1) := by decide +kernel
theorem dX8_scissors_19 : decode cX8_scissors 19 = .ok (.lconst 0, 1) := by decide +kernel
theorem dX8_scissors_20 : decode cX8_scissors 20 = .ok (.lstore_n 2, 1) := by decide +kernel
theorem dX8_scissors_21 : decode cX8_scissors 21 = .ok (.iconst 0, 1) := by decide +kernel
theorem dX8_scissors_22 : decode cX8_scissors 22 = .ok (.istore 4, 2) := by decide +kernel
theorem dX8_scissors_24 : decode cX8_scissors 24 = .ok (.iload 4, 2) := by decide +kernel
theorem dX8_scissors_26 : decode cX8_scissors 26 = .ok (.aload_n 0, 1) := by decide +kernel
theorem dX8_scissors_27 : decode cX8_scissors 27 = .ok (.getfield 7, 3) := by decide +kernel
theorem dX8_scissors_30 : decode cX8_scissors 30 = .ok (.iconst 0, 1) := by decide +kernel
theorem dX8_scissors_31 : decode cX8_scissors 31 = .ok (.iaload, 1) := by decide +kernel
theorem dX8_scissors_32 : decode cX8_scissors 32 = .ok (.if_icmp .ge 50, 3) := by decide +kernel
theorem dX8_scissors_35 : decode cX8_scissors 35 = .ok (.lload_n 2, 1) := by decide +kernel
theorem dX8_scissors_36 : decode cX8_scissors 36 = .ok (.iload_n 1, 1) := by decide +kernel
theorem dX8_scissors_37 : decode cX8_scissors 37 = .ok (.aload_n 0, 1) := by decide +kernel
theorem dX8_scissors_38 : decode cX8_scissors 38 = .ok (.getfield 7, 3) := by decide +kernel
theorem dX8_scissors_41 : decode cX8_scissors 41 = .ok (.bipush 6, 2) := by decide +kernel
theorem dX8_scissors_43 : decode cX8_scissors 43 = .ok (.iload 4, 2) := by decide +kernel
theorem dX8_scissors_45 : decode cX8_scissors 45 = .ok (.iadd, 1) := by decide +kernel
theorem dX8_scissors_46 : decode cX8_scissors 46 = .ok (.iaload, 1) := by decide +kernel
theorem dX8_scissors_47 : decode cX8_scissors 47 = .ok (.iconst 2, 1) := by decide +kernel
theorem dX8_scissors_48 : decode cX8_scissors 48 = .ok (.idiv, 1) := by decide +kernel
theorem dX8_scissors_49 : decode cX8_scissors 49 = .ok (.aload_n 0, 1) := by decide +kernel
theorem dX8_scissors_50 : decode cX8_scissors 50 = .ok (.getfield 7, 3) := by decide +kernel
theorem dX8_scissors_53 : decode cX8_scissors 53 = .ok (.bipush 11, 2) := by decide +kernel
theorem dX8_scissors_55 : decode cX8_scissors 55 = .ok (.iaload, 1) := by decide +kernel
theorem dX8_scissors_56 : decode cX8_scissors 56 = .ok (.invokestatic 188, 3) := by decide +kernel
theorem dX8_scissors_59 : decode cX8_scissors 59 = .ok (.imul, 1) := by decide +kernel
theorem dX8_scissors_60 : decode cX8_scissors 60 = .ok (.bipush 10, 2) := by decide +kernel
theorem dX8_scissors_62 : decode cX8_scissors 62 = .ok (.iload_n 1, 1) := by decide +kernel
theorem dX8_scissors_63 : decode cX8_scissors 63 = .ok (.isub, 1) := by decide +kernel
theorem dX8_scissors_64 : decode cX8_scissors 64 = .ok (.aload_n 0, 1) := by decide +kernel
theorem dX8_scissors_65 : decode cX8_scissors 65 = .ok (.iconst 0, 1) := by decide +kernel
theorem dX8_scissors_66 : decode cX8_scissors 66 = .ok (.iload 4, 2) := by decide +kernel
theorem dX8_scissors_68 : decode cX8_scissors 68 = .ok (.invokevirtual 194, 3) := by decide +kernel
theorem dX8_scissors_71 : decode cX8_scissors 71 = .ok (.imul, 1) := by decide +kernel
theorem dX8_scissors_72 : decode cX8_scissors 72 = .ok (.iadd, 1) := by decide +kernel
theorem dX8_scissors_73 : decode cX8_scissors 73 = .ok (.i2l, 1) := by decide +kernel
theorem dX8_scissors_74 : decode cX8_scissors 74 = .ok (.ladd, 1) := by decide +kernel
theorem dX8_scissors_75 : decode cX8_scissors 75 = .ok (.lstore_n 2, 1) := by decide +kernel
theorem dX8_scissors_76 : decode cX8_scissors 76 = .ok (.iinc 4 1, 3) := by decide +kernel
theorem dX8_scissors_79 : decode cX8_scissors 79 = .ok (.goto (-55), 3) := by decide +kernel
theorem dX8_scissors_82 : decode cX8_scissors 82 = .ok (.lload_n 2, 1) := by decide +kernel
theorem dX8_scissors_83 : decode cX8_scissors 83 = .ok (.lstore 4, 2) := by decide +kernel
theorem dX8_scissors_85 : decode cX8_scissors 85 = .ok (.ldc2_w 247, 3) := by decide +kernel
theorem dX8_scissors_88 : decode cX8_scissors 88 = .ok (.lstore 6, 2) := by decide +kernel
theorem dX8_scissors_90 : decode cX8_scissors 90 = .ok (.lload 6, 2) := by decide +kernel
theorem dX8_scissors_92 : decode cX8_scissors 92 = .ok (.lconst 0, 1) := by decide +kernel
theorem dX8_scissors_93 : decode cX8_scissors 93 = .ok (.lcmp, 1) := by decide +kernel
theorem dX8_scissors_94 : decode cX8_scissors 94 = .ok (.ifCond .eq 21, 3) := by decide +kernel
theorem dX8_scissors_97 : decode cX8_scissors 97 = .ok (.lload 4, 2) := by decide +kernel
theorem dX8_scissors_99 : decode cX8_scissors 99 = .ok (.lload 6, 2) := by decide +kernel
theorem dX8_scissors_101 : decode cX8_scissors 101 = .ok (.lrem, 1) := by decide +kernel
theorem dX8_scissors_102 : decode cX8_scissors 102 = .ok (.lstore 8, 2) := by decide +kernel
theorem dX8_scissors_104 : decode cX8_scissors 104 = .ok (.lload 6, 2) := by decide +kernel
theorem dX8_scissors_106 : decode cX8_scissors 106 = .ok (.lstore 4, 2) := by decide +kernel
theorem dX8_scissors_108 : decode cX8_scissors 108 = .ok (.lload 8, 2) := by decide +kernel
theorem dX8_scissors_110 : decode cX8_scissors 110 = .ok (.lstore 6, 2) := by decide +kernel
theorem dX8_scissors_112 : decode cX8_scissors 112 = .ok (.goto (-22), 3) := by decide +kernel
theorem dX8_scissors_115 : decode cX8_scissors 115 = .ok (.aload_n 0, 1) := by decide +kernel
theorem dX8_scissors_116 : decode cX8_scissors 116 = .ok (.lload_n 2, 1) := by decide +kernel
theorem dX8_scissors_117 : decode cX8_scissors 117 = .ok (.lload 4, 2) := by decide +kernel
theorem dX8_scissors_119 : decode cX8_scissors 119 = .ok (.ldiv, 1) := by decide +kernel
theorem dX8_scissors_120 : decode cX8_scissors 120 = .ok (.putfield 20, 3) := by decide +kernel
theorem dX8_scissors_123 : decode cX8_scissors 123 = .ok (.aload_n 0, 1) := by decide +kernel
theorem dX8_scissors_124 : decode cX8_scissors 124 = .ok (.ldc2_w 247, 3) := by decide +kernel
theorem dX8_scissors_127 : decode cX8_scissors 127 = .ok (.lload 4, 2) := by decide +kernel
theorem dX8_scissors_129 : decode cX8_scissors 129 = .ok (.ldiv, 1) := by decide +kernel
theorem dX8_scissors_130 : decode cX8_scissors 130 = .ok (.putfield 24, 3) := by decide +kernel
theorem dX8_scissors_133 : decode cX8_scissors 133 = .ok (.iconst 1, 1) := by decide +kernel
theorem dX8_scissors_134 : decode cX8_scissors 134 = .ok (.ireturn, 1) := by decide +kernel
theorem dX8_nights_0 : decode cX8_nights 0 = .ok (.iload_n 1, 1) := by decide +kernel
theorem dX8_nights_1 : decode cX8_nights 1 = .ok (.i2l, 1) := by decide +kernel
theorem dX8_nights_2 : decode cX8_nights 2 = .ok (.lconst 0, 1) := by decide +kernel
theorem dX8_nights_3 : decode cX8_nights 3 = .ok (.ldc2_w 249, 3) := by decide +kernel
theorem dX8_nights_6 : decode cX8_nights 6 = .ok (.invokestatic 56, 3) := by decide +kernel
theorem dX8_nights_9 : decode cX8_nights 9 = .ok (.ifCond .eq 15, 3) := by decide +kernel
theorem dX8_nights_12 : decode cX8_nights 12 = .ok (.iload_n 2, 1) := by decide +kernel
theorem dX8_nights_13 : decode cX8_nights 13 = .ok (.i2l, 1) := by decide +kernel
theorem dX8_nights_14 : decode cX8_nights 14 = .ok (.lconst 0, 1) := by decide +kernel
theorem dX8_nights_15 : decode cX8_nights 15 = .ok (.ldc2_w 74, 3) := by decide +kernel
theorem dX8_nights_18 : decode cX8_nights 18 = .ok (.invokestatic 56, 3) := by decide +kernel
theorem dX8_nights_21 : decode cX8_nights 21 = .ok (.ifCond .ne 10, 3) := by decide +kernel
theorem dX8_nights_24 : decode cX8_nights 24 = .ok (.aload_n 0, 1) := by decide +kernel
theorem dX8_nights_25 : decode cX8_nights 25 = .ok (.bipush (-2), 2) := by decide +kernel
theorem dX8_nights_27 : decode cX8_nights 27 = .ok (.invokevirtual 78, 3) := by decide +kernel
theorem dX8_nights_30 : decode cX8_nights 30 = .ok (.ireturn, 1) := by decide +kernel
theorem dX8_nights_31 : decode cX8_nights 31 = .ok (.iload_n 1, 1) := by decide +kernel
theorem dX8_nights_32 : decode cX8_nights 32 = .ok (.i2l, 1) := by decide +kernel
theorem dX8_nights_33 : decode cX8_nights 33 = .ok (.lstore_n 3, 1) := by decide +kernel
theorem dX8_nights_34 : decode cX8_nights 34 = .ok (.aload_n 0, 1) := by decide +kernel
theorem dX8_nights_35 : decode cX8_nights 35 = .ok (.getfield 7, 3) := by decide +kernel
theorem dX8_nights_38 : decode cX8_nights 38 = .ok (.bipush 14, 2) := by decide +kernel
theorem dX8_nights_40 : decode cX8_nights 40 = .ok (.iaload, 1) := by decide +kernel
theorem dX8_nights_41 : decode cX8_nights 41 = .ok (.istore 5, 2) := by decide +kernel
theorem dX8_nights_43 : decode cX8_nights 43 = .ok (.iconst 0, 1) := by decide +kernel
theorem dX8_nights_44 : decode cX8_nights 44 = .ok (.istore 6, 2) := by decide +kernel
theorem dX8_nights_46 : decode cX8_nights 46 = .ok (.iconst 0, 1) := by decide +kernel
theorem dX8_nights_47 : decode cX8_nights 47 = .ok (.istore 7, 2) := by decide +kernel
theorem dX8_nights_49 : decode cX8_nights 49 = .ok (.iload 7, 2) := by decide +kernel
theorem dX8_nights_51 : decode cX8_nights 51 = .ok (.iload_n 2, 1) := by decide +kernel
theorem dX8_nights_52 : decode cX8_nights 52 = .ok (.if_icmp .ge 116, 3) := by decide +kernel
theorem dX8_nights_55 : decode cX8_nights 55 = .ok (.lload_n 3, 1) := by decide +kernel
theorem dX8_nights_56 : decode cX8_nights 56 = .ok (.ldc2_w 251, 3) := by decide +kernel
theorem dX8_nights_59 : decode cX8_nights 59 = .ok (.lmul, 1) := by decide +kernel
theorem dX8_nights_60 : decode cX8_nights 60 = .ok (.ldc2_w 253, 3) := by decide +kernel
theorem dX8_nights_63 : decode cX8_nights 63 = .ok (.ladd, 1) := by decide +kernel
theorem dX8_nights_64 : decode cX8_nights 64 = .ok (.ldc2_w 255, 3) := by decide +kernel
theorem dX8_nights_67 : decode cX8_nights 67 = .ok (.lrem, 1) := by decide +kernel
theorem dX8_nights_68 : decode cX8_nights 68 = .ok (.lstore_n 3, 1) := by decide +kernel
theorem dX8_nights_69 : decode cX8_nights 69 = .ok (.lload_n 3, 1) := by decide +kernel
theorem dX8_nights_70 : decode cX8_nights 70 = .ok (.ldc2_w 257, 3) := by decide +kernel
theorem dX8_nights_73 : decode cX8_nights 73 = .ok (.ldiv, 1) := by decide +kernel
theorem dX8_nights_74 : decode cX8_nights 74 = .ok (.ldc2_w 208, 3) := by decide +kernel
theorem dX8_nights_77 : decode cX8_nights 77 = .ok (.lrem, 1) := by decide +kernel
theorem dX8_nights_78 : decode cX8_nights 78 = .ok (.l2i, 1) := by decide +kernel
theorem dX8_nights_79 : decode cX8_nights 79 = .ok (.istore 8, 2) := by decide +kernel
theorem dX8_nights_81 : decode cX8_nights 81 = .ok (.iload 8, 2) := by decide +kernel
theorem dX8_nights_83 : decode cX8_nights 83 = .ok (.aload_n 0, 1) := by decide +kernel
theorem dX8_nights_84 : decode cX8_nights 84 = .ok (.getfield 7, 3) := by decide +kernel
theorem dX8_nights_87 : decode cX8_nights 87 = .ok (.iconst 0, 1) := by decide +kernel
theorem dX8_nights_88 : decode cX8_nights 88 = .ok (.iaload, 1) := by decide +kernel
theorem dX8_nights_89 : decode cX8_nights 89 = .ok (.if_icmp .ge 73, 3) := by decide +kernel
theorem dX8_nights_92 : decode cX8_nights 92 = .ok (.aload_n 0, 1) := by decide +kernel
theorem dX8_nights_93 : decode cX8_nights 93 = .ok (.iconst 0, 1) := by decide +kernel
theorem dX8_nights_94 : decode cX8_nights 94 = .ok (.iload 8, 2) := by decide +kernel
theorem dX8_nights_96 : decode cX8_nights 96 = .ok (.aload_n 0, 1) := by decide +kernel
theorem dX8_nights_97 : decode cX8_nights 97 = .ok (.getfield 7, 3) := by decide +kernel
theorem dX8_nights_100 : decode cX8_nights 100 = .ok (.bipush 17, 2) := by decide +kernel
theorem dX8_nights_102 : decode cX8_nights 102 = .ok (.iaload, 1) := by decide +kernel
theorem dX8_nights_103 : decode cX8_nights 103 = .ok (.iload 7, 2) := by decide +kernel
theorem dX8_nights_105 : decode cX8_nights 105 = .ok (.iadd, 1) := by decide +kernel
theorem dX8_nights_106 : decode cX8_nights 106 = .ok (.invokevirtual 191, 3) := by decide +kernel
theorem dX8_nights_109 : decode cX8_nights 109 = .ok (.istore 9, 2) := by decide +kernel
theorem dX8_nights_111 : decode cX8_nights 111 = .ok (.iload 5, 2) := by decide +kernel
theorem dX8_nights_113 : decode cX8_nights 113 = .ok (.iload 9, 2) := by decide +kernel
theorem dX8_nights_115 : decode cX8_nights 115 = .ok (.if_icmp .lt 7, 3) := by decide +kernel
theorem dX8_nights_118 : decode cX8_nights 118 = .ok (.iconst 1, 1) := by decide +kernel
theorem dX8_nights_119 : decode cX8_nights 119 = .ok (.goto 4, 3) := by decide +kernel
theorem dX8_nights_122 : decode cX8_nights 122 = .ok (.iconst 0, 1) := by decide +kernel
theorem dX8_nights_123 : decode cX8_nights 123 = .ok (.istore 10, 2) := by decide +kernel
theorem dX8_nights_125 : decode cX8_nights 125 = .ok (.iload 6, 2) := by decide +kernel
theorem dX8_nights_127 : decode cX8_nights 127 = .ok (.iload 10, 2) := by decide +kernel
theorem dX8_nights_129 : decode cX8_nights 129 = .ok (.ifCond .eq 13, 3) := by decide +kernel
theorem dX8_nights_132 : decode cX8_nights 132 = .ok (.aload_n 0, 1) := by decide +kernel
theorem dX8_nights_133 : decode cX8_nights 133 = .ok (.iconst 0, 1) := by decide +kernel
theorem dX8_nights_134 : decode cX8_nights 134 = .ok (.iload 8, 2) := by decide +kernel
theorem dX8_nights_136 : decode cX8_nights 136 = .ok (.invokevirtual 194, 3) := by decide +kernel
theorem dX8_nights_139 : decode cX8_nights 139 = .ok (.goto 4, 3) := by decide +kernel
theorem dX8_nights_142 : decode cX8_nights 142 = .ok (.iconst 0, 1) := by decide +kernel
theorem dX8_nights_143 : decode cX8_nights 143 = .ok (.iadd, 1) := by decide +kernel
theorem dX8_nights_144 : decode cX8_nights 144 = .ok (.istore 6, 2) := by decide +kernel
theorem dX8_nights_146 : decode cX8_nights 146 = .ok (.iload 5, 2) := by decide +kernel
theorem dX8_nights_148 : decode cX8_nights 148 = .ok (.iload 10, 2) := by decide +kernel
theorem dX8_nights_150 : decode cX8_nights 150 = .ok (.ifCond .eq 8, 3) := by decide +kernel
theorem dX8_nights_153 : decode cX8_nights 153 = .ok (.iload 9, 2) := by decide +kernel
theorem dX8_nights_155 : decode cX8_nights 155 = .ok (.goto 4, 3) := by decide +kernel
theorem dX8_nights_158 : decode cX8_nights 158 = .ok (.iconst 0, 1) := by decide +kernel
theorem dX8_nights_159 : decode cX8_nights 159 = .ok (.isub, 1) := by decide +kernel
theorem dX8_nights_160 : decode cX8_nights 160 = .ok (.istore 5, 2) := by decide +kernel
theorem dX8_nights_162 : decode cX8_nights 162 = .ok (.iinc 7 1, 3) := by decide +kernel
theorem dX8_nights_165 : decode cX8_nights 165 = .ok (.goto (-116), 3) := by decide +kernel
theorem dX8_nights_168 : decode cX8_nights 168 = .ok (.iload 6, 2) := by decide +kernel
theorem dX8_nights_170 : decode cX8_nights 170 = .ok (.ireturn, 1) := by decide +kernel
theorem dX8_part_0 : decode cX8_part 0 = .ok (.iload_n 1, 1) := by decide +kernel
theorem dX8_part_1 : decode cX8_part 1 = .ok (.ifCond .ne 10, 3) := by decide +kernel
theorem dX8_part_4 : decode cX8_part 4 = .ok (.aload_n 0, 1) := by decide +kernel
theorem dX8_part_5 : decode cX8_part 5 = .ok (.getfield 20, 3) := by decide +kernel
theorem dX8_part_8 : decode cX8_part 8 = .ok (.goto 22, 3) := by decide +kernel
theorem dX8_part_11 : decode cX8_part 11 = .ok (.iload_n 1, 1) := by decide +kernel
theorem dX8_part_12 : decode cX8_part 12 = .ok (.iconst 1, 1) := by decide +kernel
theorem dX8_part_13 : decode cX8_part 13 = .ok (.if_icmp .ne 10, 3) := by decide +kernel
theorem dX8_part_16 : decode cX8_part 16 = .ok (.aload_n 0, 1) := by decide +kernel
theorem dX8_part_17 : decode cX8_part 17 = .ok (.getfield 24, 3) := by decide +kernel
theorem dX8_part_20 : decode cX8_part 20 = .ok (.goto 10, 3) := by decide +kernel
theorem dX8_part_23 : decode cX8_part 23 = .ok (.aload_n 0, 1) := by decide +kernel
theorem dX8_part_24 : decode cX8_part 24 = .ok (.bipush (-2), 2) := by decide +kernel
theorem dX8_part_26 : decode cX8_part 26 = .ok (.invokevirtual 78, 3) := by decide +kernel
theorem dX8_part_29 : decode cX8_part 29 = .ok (.i2l, 1) := by decide +kernel
theorem dX8_part_30 : decode cX8_part 30 = .ok (.lreturn, 1) := by decide +kernel
theorem dX8_image_0 : decode cX8_image 0 = .ok (.iload_n 1, 1) := by decide +kernel
theorem dX8_image_1 : decode cX8_image 1 = .ok (.i2l, 1) := by decide +kernel
theorem dX8_image_2 : decode cX8_image 2 = .ok (.lconst 0, 1) := by decide +kernel
theorem dX8_image_3 : decode cX8_image 3 = .ok (.lconst 1, 1) := by decide +kernel
theorem dX8_image_4 : decode cX8_image 4 = .ok (.invokestatic 56, 3) := by decide +kernel
theorem dX8_image_7 : decode cX8_image 7 = .ok (.ifCond .ne 10, 3) := by decide +kernel
theorem dX8_image_10 : decode cX8_image 10 = .ok (.aload_n 0, 1) := by decide +kernel
theorem dX8_image_11 : decode cX8_image 11 = .ok (.bipush (-2), 2) := by decide +kernel
theorem dX8_image_13 : decode cX8_image 13 = .ok (.invokevirtual 78, 3) := by decide +kernel
theorem dX8_image_16 : decode cX8_image 16 = .ok (.ireturn, 1) := by decide +kernel
theorem dX8_image_17 : decode cX8_image 17 = .ok (.aload_n 0, 1) := by decide +kernel
theorem dX8_image_18 : decode cX8_image 18 = .ok (.iconst 0, 1) := by decide +kernel
theorem dX8_image_19 : decode cX8_image 19 = .ok (.bipush 114, 2) := by decide +kernel
theorem dX8_image_21 : decode cX8_image 21 = .ok (.bipush 114, 2) := by decide +kernel
theorem dX8_image_23 : decode cX8_image 23 = .ok (.iload_n 1, 1) := by decide +kernel
theorem dX8_image_24 : decode cX8_image 24 = .ok (.imul, 1) := by decide +kernel
theorem dX8_image_25 : decode cX8_image 25 = .ok (.iadd, 1) := by decide +kernel
theorem dX8_image_26 : decode cX8_image 26 = .ok (.invokevirtual 175, 3) := by decide +kernel
theorem dX8_image_29 : decode cX8_image 29 = .ok (.aload_n 0, 1) := by decide +kernel
theorem dX8_image_30 : decode cX8_image 30 = .ok (.getfield 13, 3) := by decide +kernel
theorem dX8_image_33 : decode cX8_image 33 = .ok (.iload_n 1, 1) := by decide +kernel
theorem dX8_image_34 : decode cX8_image 34 = .ok (.iconst 1, 1) := by decide +kernel
theorem dX8_image_35 : decode cX8_image 35 = .ok (.bastore, 1) := by decide +kernel
theorem dX8_image_36 : decode cX8_image 36 = .ok (.iconst 1, 1) := by decide +kernel
theorem dX8_image_37 : decode cX8_image 37 = .ok (.ireturn, 1) := by decide +kernel
theorem dX8_from_0 : decode cX8_from 0 = .ok (.iload_n 1, 1) := by decide +kernel
theorem dX8_from_1 : decode cX8_from 1 = .ok (.i2l, 1) := by decide +kernel
theorem dX8_from_2 : decode cX8_from 2 = .ok (.lconst 0, 1) := by decide +kernel
theorem dX8_from_3 : decode cX8_from 3 = .ok (.lconst 1, 1) := by decide +kernel
theorem dX8_from_4 : decode cX8_from 4 = .ok (.invokestatic 56, 3) := by decide +kernel
theorem dX8_from_7 : decode cX8_from 7 = .ok (.ifCond .ne 10, 3) := by decide +kernel
theorem dX8_from_10 : decode cX8_from 10 = .ok (.aload_n 0, 1) := by decide +kernel
theorem dX8_from_11 : decode cX8_from 11 = .ok (.bipush (-2), 2) := by decide +kernel
theorem dX8_from_13 : decode cX8_from 13 = .ok (.invokevirtual 78, 3) := by decide +kernel
theorem dX8_from_16 : decode cX8_from 16 = .ok (.ireturn, 1) := by decide +kernel
theorem dX8_from_17 : decode cX8_from 17 = .ok (.aload_n 0, 1) := by decide +kernel
theorem dX8_from_18 : decode cX8_from 18 = .ok (.getfield 13, 3) := by decide +kernel
theorem dX8_from_21 : decode cX8_from 21 = .ok (.iload_n 1, 1) := by decide +kernel
theorem dX8_from_22 : decode cX8_from 22 = .ok (.baload, 1) := by decide +kernel
theorem dX8_from_23 : decode cX8_from 23 = .ok (.ifCond .ne 8, 3) := by decide +kernel
theorem dX8_from_26 : decode cX8_from 26 = .ok (.aload_n 0, 1) := by decide +kernel
theorem dX8_from_27 : decode cX8_from 27 = .ok (.invokevirtual 200, 3) := by decide +kernel
theorem dX8_from_30 : decode cX8_from 30 = .ok (.ireturn, 1) := by decide +kernel
theorem dX8_from_31 : decode cX8_from 31 = .ok (.aload_n 0, 1) := by decide +kernel
theorem dX8_from_32 : decode cX8_from 32 = .ok (.bipush 114, 2) := by decide +kernel
theorem dX8_from_34 : decode cX8_from 34 = .ok (.bipush 114, 2) := by decide +kernel
theorem dX8_from_36 : decode cX8_from 36 = .ok (.iload_n 1, 1) := by decide +kernel
theorem dX8_from_37 : decode cX8_from 37 = .ok (.imul, 1) := by decide +kernel
theorem dX8_from_38 : decode cX8_from 38 = .ok (.iadd, 1) := by decide +kernel
theorem dX8_from_39 : decode cX8_from 39 = .ok (.iconst 0, 1) := by decide +kernel
theorem dX8_from_40 : decode cX8_from 40 = .ok (.invokevirtual 175, 3) := by decide +kernel
theorem dX8_from_43 : decode cX8_from 43 = .ok (.iconst 1, 1) := by decide +kernel
theorem dX8_from_44 : decode cX8_from 44 = .ok (.ireturn, 1) := by decide +kernel
theorem dX8_status_0 : decode cX8_status 0 = .ok (.iload_n 1, 1) := by decide +kernel
theorem dX8_status_1 : decode cX8_status 1 = .ok (.i2l, 1) := by decide +kernel
theorem dX8_status_2 : decode cX8_status 2 = .ok (.lconst 0, 1) := by decide +kernel
theorem dX8_status_3 : decode cX8_status 3 = .ok (.ldc2_w 131, 3) := by decide +kernel
theorem dX8_status_6 : decode cX8_status 6 = .ok (.invokestatic 56, 3) := by decide +kernel
theorem dX8_status_9 : decode cX8_status 9 = .ok (.ifCond .eq 12, 3) := by decide +kernel
theorem dX8_status_12 : decode cX8_status 12 = .ok (.aload_n 0, 1) := by decide +kernel
theorem dX8_status_13 : decode cX8_status 13 = .ok (.getfield 27, 3) := by decide +kernel
theorem dX8_status_16 : decode cX8_status 16 = .ok (.iload_n 1, 1) := by decide +kernel
theorem dX8_status_17 : decode cX8_status 17 = .ok (.iaload, 1) := by decide +kernel
theorem dX8_status_18 : decode cX8_status 18 = .ok (.goto 8, 3) := by decide +kernel
theorem dX8_status_21 : decode cX8_status 21 = .ok (.aload_n 0, 1) := by decide +kernel
theorem dX8_status_22 : decode cX8_status 22 = .ok (.iconst (-1), 1) := by decide +kernel
theorem dX8_status_23 : decode cX8_status 23 = .ok (.invokevirtual 78, 3) := by decide +kernel
theorem dX8_status_26 : decode cX8_status 26 = .ok (.ireturn, 1) := by decide +kernel
theorem dX8_countOf_0 : decode cX8_countOf 0 = .ok (.iload_n 1, 1) := by decide +kernel
theorem dX8_countOf_1 : decode cX8_countOf 1 = .ok (.tableswitch 74 0 4 #[35, 42, 50, 58, 66], 35) := by decide +kernel
theorem dX8_countOf_36 : decode cX8_countOf 36 = .ok (.aload_n 0, 1) := by decide +kernel
theorem dX8_countOf_37 : decode cX8_countOf 37 = .ok (.getfield 7, 3) := by decide +kernel
theorem dX8_countOf_40 : decode cX8_countOf 40 = .ok (.iconst 0, 1) := by decide +kernel
theorem dX8_countOf_41 : decode cX8_countOf 41 = .ok (.iaload, 1) := by decide +kernel
theorem dX8_countOf_42 : decode cX8_countOf 42 = .ok (.ireturn, 1) := by decide +kernel
theorem dX8_countOf_43 : decode cX8_countOf 43 = .ok (.aload_n 0, 1) := by decide +kernel
theorem dX8_countOf_44 : decode cX8_countOf 44 = .ok (.getfield 7, 3) := by decide +kernel
theorem dX8_countOf_47 : decode cX8_countOf 47 = .ok (.bipush 18, 2) := by decide +kernel
theorem dX8_countOf_49 : decode cX8_countOf 49 = .ok (.iaload, 1) := by decide +kernel
theorem dX8_countOf_50 : decode cX8_countOf 50 = .ok (.ireturn, 1) := by decide +kernel
theorem dX8_countOf_51 : decode cX8_countOf 51 = .ok (.aload_n 0, 1) := by decide +kernel
theorem dX8_countOf_52 : decode cX8_countOf 52 = .ok (.getfield 7, 3) := by decide +kernel
theorem dX8_countOf_55 : decode cX8_countOf 55 = .ok (.bipush 31, 2) := by decide +kernel
theorem dX8_countOf_57 : decode cX8_countOf 57 = .ok (.iaload, 1) := by decide +kernel
theorem dX8_countOf_58 : decode cX8_countOf 58 = .ok (.ireturn, 1) := by decide +kernel
theorem dX8_countOf_59 : decode cX8_countOf 59 = .ok (.aload_n 0, 1) := by decide +kernel
theorem dX8_countOf_60 : decode cX8_countOf 60 = .ok (.getfield 7, 3) := by decide +kernel
theorem dX8_countOf_63 : decode cX8_countOf 63 = .ok (.bipush 56, 2) := by decide +kernel
theorem dX8_countOf_65 : decode cX8_countOf 65 = .ok (.iaload, 1) := by decide +kernel
theorem dX8_countOf_66 : decode cX8_countOf 66 = .ok (.ireturn, 1) := by decide +kernel
theorem dX8_countOf_67 : decode cX8_countOf 67 = .ok (.aload_n 0, 1) := by decide +kernel
theorem dX8_countOf_68 : decode cX8_countOf 68 = .ok (.getfield 7, 3) := by decide +kernel
theorem dX8_countOf_71 : decode cX8_countOf 71 = .ok (.bipush 81, 2) := by decide +kernel
theorem dX8_countOf_73 : decode cX8_countOf 73 = .ok (.iaload, 1) := by decide +kernel
theorem dX8_countOf_74 : decode cX8_countOf 74 = .ok (.ireturn, 1) := by decide +kernel
theorem dX8_countOf_75 : decode cX8_countOf 75 = .ok (.aload_n 0, 1) := by decide +kernel
theorem dX8_countOf_76 : decode cX8_countOf 76 = .ok (.getfield 48, 3) := by decide +kernel
theorem dX8_countOf_79 : decode cX8_countOf 79 = .ok (.ireturn, 1) := by decide +kernel
theorem dX8_count_0 : decode cX8_count 0 = .ok (.iload_n 1, 1) := by decide +kernel
theorem dX8_count_1 : decode cX8_count 1 = .ok (.i2l, 1) := by decide +kernel
theorem dX8_count_2 : decode cX8_count 2 = .ok (.lconst 0, 1) := by decide +kernel
theorem dX8_count_3 : decode cX8_count 3 = .ok (.ldc2_w 85, 3) := by decide +kernel
theorem dX8_count_6 : decode cX8_count 6 = .ok (.invokestatic 56, 3) := by decide +kernel
theorem dX8_count_9 : decode cX8_count 9 = .ok (.ifCond .eq 11, 3) := by decide +kernel
theorem dX8_count_12 : decode cX8_count 12 = .ok (.aload_n 0, 1) := by decide +kernel
theorem dX8_count_13 : decode cX8_count 13 = .ok (.iload_n 1, 1) := by decide +kernel
theorem dX8_count_14 : decode cX8_count 14 = .ok (.invokevirtual 259, 3) := by decide +kernel
theorem dX8_count_17 : decode cX8_count 17 = .ok (.goto 9, 3) := by decide +kernel
theorem dX8_count_20 : decode cX8_count 20 = .ok (.aload_n 0, 1) := by decide +kernel
theorem dX8_count_21 : decode cX8_count 21 = .ok (.bipush (-2), 2) := by decide +kernel
theorem dX8_count_23 : decode cX8_count 23 = .ok (.invokevirtual 78, 3) := by decide +kernel
theorem dX8_count_26 : decode cX8_count 26 = .ok (.ireturn, 1) := by decide +kernel
theorem dX8_mix_0 : decode cX8_mix 0 = .ok (.aload_n 0, 1) := by decide +kernel
theorem dX8_mix_1 : decode cX8_mix 1 = .ok (.ldc2_w 262, 3) := by decide +kernel
theorem dX8_mix_4 : decode cX8_mix 4 = .ok (.aload_n 0, 1) := by decide +kernel
theorem dX8_mix_5 : decode cX8_mix 5 = .ok (.getfield 264, 3) := by decide +kernel
theorem dX8_mix_8 : decode cX8_mix 8 = .ok (.lmul, 1) := by decide +kernel
theorem dX8_mix_9 : decode cX8_mix 9 = .ok (.lload_n 1, 1) := by decide +kernel
theorem dX8_mix_10 : decode cX8_mix 10 = .ok (.ladd, 1) := by decide +kernel
theorem dX8_mix_11 : decode cX8_mix 11 = .ok (.putfield 264, 3) := by decide +kernel
theorem dX8_mix_14 : decode cX8_mix 14 = .ok (.return_, 1) := by decide +kernel
theorem dX8_digest_0 : decode cX8_digest 0 = .ok (.aload_n 0, 1) := by decide +kernel
theorem dX8_digest_1 : decode cX8_digest 1 = .ok (.ldc2_w 267, 3) := by decide +kernel
theorem dX8_digest_4 : decode cX8_digest 4 = .ok (.putfield 264, 3) := by decide +kernel
theorem dX8_digest_7 : decode cX8_digest 7 = .ok (.iconst 0, 1) := by decide +kernel
theorem dX8_digest_8 : decode cX8_digest 8 = .ok (.istore_n 1, 1) := by decide +kernel
theorem dX8_digest_9 : decode cX8_digest 9 = .ok (.iload_n 1, 1) := by decide +kernel
theorem dX8_digest_10 : decode cX8_digest 10 = .ok (.bipush 6, 2) := by decide +kernel
theorem dX8_digest_12 : decode cX8_digest 12 = .ok (.if_icmp .ge 19, 3) := by decide +kernel
theorem dX8_digest_15 : decode cX8_digest 15 = .ok (.aload_n 0, 1) := by decide +kernel
theorem dX8_digest_16 : decode cX8_digest 16 = .ok (.aload_n 0, 1) := by decide +kernel
theorem dX8_digest_17 : decode cX8_digest 17 = .ok (.iload_n 1, 1) := by decide +kernel
theorem dX8_digest_18 : decode cX8_digest 18 = .ok (.invokevirtual 259, 3) := by decide +kernel
theorem dX8_digest_21 : decode cX8_digest 21 = .ok (.i2l, 1) := by decide +kernel
theorem dX8_digest_22 : decode cX8_digest 22 = .ok (.invokevirtual 269, 3) := by decide +kernel
theorem dX8_digest_25 : decode cX8_digest 25 = .ok (.iinc 1 1, 3) := by decide +kernel
theorem dX8_digest_28 : decode cX8_digest 28 = .ok (.goto (-19), 3) := by decide +kernel
theorem dX8_digest_31 : decode cX8_digest 31 = .ok (.iconst 0, 1) := by decide +kernel
theorem dX8_digest_32 : decode cX8_digest 32 = .ok (.istore_n 1, 1) := by decide +kernel
theorem dX8_digest_33 : decode cX8_digest 33 = .ok (.iload_n 1, 1) := by decide +kernel
theorem dX8_digest_34 : decode cX8_digest 34 = .ok (.bipush 7, 2) := by decide +kernel
theorem dX8_digest_36 : decode cX8_digest 36 = .ok (.if_icmp .ge 23, 3) := by decide +kernel
theorem dX8_digest_39 : decode cX8_digest 39 = .ok (.aload_n 0, 1) := by decide +kernel
theorem dX8_digest_40 : decode cX8_digest 40 = .ok (.aload_n 0, 1) := by decide +kernel
theorem dX8_digest_41 : decode cX8_digest 41 = .ok (.getfield 7, 3) := by decide +kernel
theorem dX8_digest_44 : decode cX8_digest 44 = .ok (.bipush 11, 2) := by decide +kernel
theorem dX8_digest_46 : decode cX8_digest 46 = .ok (.iload_n 1, 1) := by decide +kernel
theorem dX8_digest_47 : decode cX8_digest 47 = .ok (.iadd, 1) := by decide +kernel
theorem dX8_digest_48 : decode cX8_digest 48 = .ok (.iaload, 1) := by decide +kernel
theorem dX8_digest_49 : decode cX8_digest 49 = .ok (.i2l, 1) := by decide +kernel
theorem dX8_digest_50 : decode cX8_digest 50 = .ok (.invokevirtual 269, 3) := by decide +kernel
theorem dX8_digest_53 : decode cX8_digest 53 = .ok (.iinc 1 1, 3) := by decide +kernel
theorem dX8_digest_56 : decode cX8_digest 56 = .ok (.goto (-23), 3) := by decide +kernel
theorem dX8_digest_59 : decode cX8_digest 59 = .ok (.iconst 0, 1) := by decide +kernel
theorem dX8_digest_60 : decode cX8_digest 60 = .ok (.istore_n 1, 1) := by decide +kernel
theorem dX8_digest_61 : decode cX8_digest 61 = .ok (.iload_n 1, 1) := by decide +kernel
theorem dX8_digest_62 : decode cX8_digest 62 = .ok (.aload_n 0, 1) := by decide +kernel
theorem dX8_digest_63 : decode cX8_digest 63 = .ok (.getfield 7, 3) := by decide +kernel
theorem dX8_digest_66 : decode cX8_digest 66 = .ok (.iconst 0, 1) := by decide +kernel
theorem dX8_digest_67 : decode cX8_digest 67 = .ok (.iaload, 1) := by decide +kernel
theorem dX8_digest_68 : decode cX8_digest 68 = .ok (.if_icmp .ge 36, 3) := by decide +kernel
theorem dX8_digest_71 : decode cX8_digest 71 = .ok (.aload_n 0, 1) := by decide +kernel
theorem dX8_digest_72 : decode cX8_digest 72 = .ok (.aload_n 0, 1) := by decide +kernel
theorem dX8_digest_73 : decode cX8_digest 73 = .ok (.getfield 7, 3) := by decide +kernel
theorem dX8_digest_76 : decode cX8_digest 76 = .ok (.iconst 1, 1) := by decide +kernel
theorem dX8_digest_77 : decode cX8_digest 77 = .ok (.iload_n 1, 1) := by decide +kernel
theorem dX8_digest_78 : decode cX8_digest 78 = .ok (.iadd, 1) := by decide +kernel
theorem dX8_digest_79 : decode cX8_digest 79 = .ok (.iaload, 1) := by decide +kernel
theorem dX8_digest_80 : decode cX8_digest 80 = .ok (.i2l, 1) := by decide +kernel
theorem dX8_digest_81 : decode cX8_digest 81 = .ok (.invokevirtual 269, 3) := by decide +kernel
theorem dX8_digest_84 : decode cX8_digest 84 = .ok (.aload_n 0, 1) := by decide +kernel
theorem dX8_digest_85 : decode cX8_digest 85 = .ok (.aload_n 0, 1) := by decide +kernel
theorem dX8_digest_86 : decode cX8_digest 86 = .ok (.getfield 7, 3) := by decide +kernel
theorem dX8_digest_89 : decode cX8_digest 89 = .ok (.bipush 6, 2) := by decide +kernel
theorem dX8_digest_91 : decode cX8_digest 91 = .ok (.iload_n 1, 1) := by decide +kernel
theorem dX8_digest_92 : decode cX8_digest 92 = .ok (.iadd, 1) := by decide +kernel
theorem dX8_digest_93 : decode cX8_digest 93 = .ok (.iaload, 1) := by decide +kernel
theorem dX8_digest_94 : decode cX8_digest 94 = .ok (.i2l, 1) := by decide +kernel
theorem dX8_digest_95 : decode cX8_digest 95 = .ok (.invokevirtual 269, 3) := by decide +kernel
theorem dX8_digest_98 : decode cX8_digest 98 = .ok (.iinc 1 1, 3) := by decide +kernel
theorem dX8_digest_101 : decode cX8_digest 101 = .ok (.goto (-40), 3) := by decide +kernel
theorem dX8_digest_104 : decode cX8_digest 104 = .ok (.iconst 0, 1) := by decide +kernel
theorem dX8_digest_105 : decode cX8_digest 105 = .ok (.istore_n 1, 1) := by decide +kernel
theorem dX8_digest_106 : decode cX8_digest 106 = .ok (.iload_n 1, 1) := by decide +kernel
theorem dX8_digest_107 : decode cX8_digest 107 = .ok (.iconst 2, 1) := by decide +kernel
theorem dX8_digest_108 : decode cX8_digest 108 = .ok (.aload_n 0, 1) := by decide +kernel
theorem dX8_digest_109 : decode cX8_digest 109 = .ok (.getfield 7, 3) := by decide +kernel
theorem dX8_digest_112 : decode cX8_digest 112 = .ok (.bipush 18, 2) := by decide +kernel
theorem dX8_digest_114 : decode cX8_digest 114 = .ok (.iaload, 1) := by decide +kernel
theorem dX8_digest_115 : decode cX8_digest 115 = .ok (.imul, 1) := by decide +kernel
theorem dX8_digest_116 : decode cX8_digest 116 = .ok (.if_icmp .ge 23, 3) := by decide +kernel
theorem dX8_digest_119 : decode cX8_digest 119 = .ok (.aload_n 0, 1) := by decide +kernel
theorem dX8_digest_120 : decode cX8_digest 120 = .ok (.aload_n 0, 1) := by decide +kernel
theorem dX8_digest_121 : decode cX8_digest 121 = .ok (.getfield 7, 3) := by decide +kernel
theorem dX8_digest_124 : decode cX8_digest 124 = .ok (.bipush 19, 2) := by decide +kernel
theorem dX8_digest_126 : decode cX8_digest 126 = .ok (.iload_n 1, 1) := by decide +kernel
theorem dX8_digest_127 : decode cX8_digest 127 = .ok (.iadd, 1) := by decide +kernel
theorem dX8_digest_128 : decode cX8_digest 128 = .ok (.iaload, 1) := by decide +kernel
theorem dX8_digest_129 : decode cX8_digest 129 = .ok (.i2l, 1) := by decide +kernel
theorem dX8_digest_130 : decode cX8_digest 130 = .ok (.invokevirtual 269, 3) := by decide +kernel
theorem dX8_digest_133 : decode cX8_digest 133 = .ok (.iinc 1 1, 3) := by decide +kernel
theorem dX8_digest_136 : decode cX8_digest 136 = .ok (.goto (-30), 3) := by decide +kernel
theorem dX8_digest_139 : decode cX8_digest 139 = .ok (.iconst 0, 1) := by decide +kernel
theorem dX8_digest_140 : decode cX8_digest 140 = .ok (.istore_n 1, 1) := by decide +kernel
theorem dX8_digest_141 : decode cX8_digest 141 = .ok (.iload_n 1, 1) := by decide +kernel
theorem dX8_digest_142 : decode cX8_digest 142 = .ok (.iconst 4, 1) := by decide +kernel
theorem dX8_digest_143 : decode cX8_digest 143 = .ok (.aload_n 0, 1) := by decide +kernel
theorem dX8_digest_144 : decode cX8_digest 144 = .ok (.getfield 7, 3) := by decide +kernel
theorem dX8_digest_147 : decode cX8_digest 147 = .ok (.bipush 31, 2) := by decide +kernel
theorem dX8_digest_149 : decode cX8_digest 149 = .ok (.iaload, 1) := by decide +kernel
theorem dX8_digest_150 : decode cX8_digest 150 = .ok (.imul, 1) := by decide +kernel
theorem dX8_digest_151 : decode cX8_digest 151 = .ok (.if_icmp .ge 23, 3) := by decide +kernel
theorem dX8_digest_154 : decode cX8_digest 154 = .ok (.aload_n 0, 1) := by decide +kernel
theorem dX8_digest_155 : decode cX8_digest 155 = .ok (.aload_n 0, 1) := by decide +kernel
theorem dX8_digest_156 : decode cX8_digest 156 = .ok (.getfield 7, 3) := by decide +kernel
theorem dX8_digest_159 : decode cX8_digest 159 = .ok (.bipush 32, 2) := by decide +kernel
theorem dX8_digest_161 : decode cX8_digest 161 = .ok (.iload_n 1, 1) := by decide +kernel
theorem dX8_digest_162 : decode cX8_digest 162 = .ok (.iadd, 1) := by decide +kernel
theorem dX8_digest_163 : decode cX8_digest 163 = .ok (.iaload, 1) := by decide +kernel
theorem dX8_digest_164 : decode cX8_digest 164 = .ok (.i2l, 1) := by decide +kernel
theorem dX8_digest_165 : decode cX8_digest 165 = .ok (.invokevirtual 269, 3) := by decide +kernel
theorem dX8_digest_168 : decode cX8_digest 168 = .ok (.iinc 1 1, 3) := by decide +kernel
theorem dX8_digest_171 : decode cX8_digest 171 = .ok (.goto (-30), 3) := by decide +kernel
theorem dX8_digest_174 : decode cX8_digest 174 = .ok (.iconst 0, 1) := by decide +kernel
theorem dX8_digest_175 : decode cX8_digest 175 = .ok (.istore_n 1, 1) := by decide +kernel
theorem dX8_digest_176 : decode cX8_digest 176 = .ok (.iload_n 1, 1) := by decide +kernel
theorem dX8_digest_177 : decode cX8_digest 177 = .ok (.iconst 4, 1) := by decide +kernel
theorem dX8_digest_178 : decode cX8_digest 178 = .ok (.aload_n 0, 1) := by decide +kernel
theorem dX8_digest_179 : decode cX8_digest 179 = .ok (.getfield 7, 3) := by decide +kernel
theorem dX8_digest_182 : decode cX8_digest 182 = .ok (.bipush 56, 2) := by decide +kernel
theorem dX8_digest_184 : decode cX8_digest 184 = .ok (.iaload, 1) := by decide +kernel
theorem dX8_digest_185 : decode cX8_digest 185 = .ok (.imul, 1) := by decide +kernel
theorem dX8_digest_186 : decode cX8_digest 186 = .ok (.if_icmp .ge 23, 3) := by decide +kernel
theorem dX8_digest_189 : decode cX8_digest 189 = .ok (.aload_n 0, 1) := by decide +kernel
theorem dX8_digest_190 : decode cX8_digest 190 = .ok (.aload_n 0, 1) := by decide +kernel
theorem dX8_digest_191 : decode cX8_digest 191 = .ok (.getfield 7, 3) := by decide +kernel
theorem dX8_digest_194 : decode cX8_digest 194 = .ok (.bipush 57, 2) := by decide +kernel
theorem dX8_digest_196 : decode cX8_digest 196 = .ok (.iload_n 1, 1) := by decide +kernel
theorem dX8_digest_197 : decode cX8_digest 197 = .ok (.iadd, 1) := by decide +kernel
theorem dX8_digest_198 : decode cX8_digest 198 = .ok (.iaload, 1) := by decide +kernel
theorem dX8_digest_199 : decode cX8_digest 199 = .ok (.i2l, 1) := by decide +kernel
theorem dX8_digest_200 : decode cX8_digest 200 = .ok (.invokevirtual 269, 3) := by decide +kernel
theorem dX8_digest_203 : decode cX8_digest 203 = .ok (.iinc 1 1, 3) := by decide +kernel
theorem dX8_digest_206 : decode cX8_digest 206 = .ok (.goto (-30), 3) := by decide +kernel
theorem dX8_digest_209 : decode cX8_digest 209 = .ok (.aload_n 0, 1) := by decide +kernel
theorem dX8_digest_210 : decode cX8_digest 210 = .ok (.aload_n 0, 1) := by decide +kernel
theorem dX8_digest_211 : decode cX8_digest 211 = .ok (.getfield 20, 3) := by decide +kernel
theorem dX8_digest_214 : decode cX8_digest 214 = .ok (.invokevirtual 269, 3) := by decide +kernel
theorem dX8_digest_217 : decode cX8_digest 217 = .ok (.aload_n 0, 1) := by decide +kernel
theorem dX8_digest_218 : decode cX8_digest 218 = .ok (.aload_n 0, 1) := by decide +kernel
theorem dX8_digest_219 : decode cX8_digest 219 = .ok (.getfield 24, 3) := by decide +kernel
theorem dX8_digest_222 : decode cX8_digest 222 = .ok (.invokevirtual 269, 3) := by decide +kernel
theorem dX8_digest_225 : decode cX8_digest 225 = .ok (.aload_n 0, 1) := by decide +kernel
theorem dX8_digest_226 : decode cX8_digest 226 = .ok (.getfield 264, 3) := by decide +kernel
theorem dX8_digest_229 : decode cX8_digest 229 = .ok (.lreturn, 1) := by decide +kernel
