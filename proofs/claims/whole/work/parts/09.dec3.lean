theorem dX9_goOn_0 : decode cX9_goOn 0 = .ok (.iconst 0, 1) := by decide +kernel
theorem dX9_goOn_1 : decode cX9_goOn 1 = .ok (.istore_n 2, 1) := by decide +kernel
theorem dX9_goOn_2 : decode cX9_goOn 2 = .ok (.iload_n 2, 1) := by decide +kernel
theorem dX9_goOn_3 : decode cX9_goOn 3 = .ok (.aload_n 0, 1) := by decide +kernel
theorem dX9_goOn_4 : decode cX9_goOn 4 = .ok (.getfield 46, 3) := by decide +kernel
theorem dX9_goOn_7 : decode cX9_goOn 7 = .ok (.if_icmp .ge 81, 3) := by decide +kernel
theorem dX9_goOn_10 : decode cX9_goOn 10 = .ok (.aload_n 0, 1) := by decide +kernel
theorem dX9_goOn_11 : decode cX9_goOn 11 = .ok (.getfield 19, 3) := by decide +kernel
theorem dX9_goOn_14 : decode cX9_goOn 14 = .ok (.aload_n 0, 1) := by decide +kernel
theorem dX9_goOn_15 : decode cX9_goOn 15 = .ok (.getfield 50, 3) := by decide +kernel
theorem dX9_goOn_18 : decode cX9_goOn 18 = .ok (.iload_n 2, 1) := by decide +kernel
theorem dX9_goOn_19 : decode cX9_goOn 19 = .ok (.iaload, 1) := by decide +kernel
theorem dX9_goOn_20 : decode cX9_goOn 20 = .ok (.iaload, 1) := by decide +kernel
theorem dX9_goOn_21 : decode cX9_goOn 21 = .ok (.istore_n 3, 1) := by decide +kernel
theorem dX9_goOn_22 : decode cX9_goOn 22 = .ok (.aload_n 0, 1) := by decide +kernel
theorem dX9_goOn_23 : decode cX9_goOn 23 = .ok (.getfield 131, 3) := by decide +kernel
theorem dX9_goOn_26 : decode cX9_goOn 26 = .ok (.iload_n 2, 1) := by decide +kernel
theorem dX9_goOn_27 : decode cX9_goOn 27 = .ok (.iaload, 1) := by decide +kernel
theorem dX9_goOn_28 : decode cX9_goOn 28 = .ok (.iload_n 1, 1) := by decide +kernel
theorem dX9_goOn_29 : decode cX9_goOn 29 = .ok (.iload_n 3, 1) := by decide +kernel
theorem dX9_goOn_30 : decode cX9_goOn 30 = .ok (.if_icmp .ge 7, 3) := by decide +kernel
theorem dX9_goOn_33 : decode cX9_goOn 33 = .ok (.iconst 0, 1) := by decide +kernel
theorem dX9_goOn_34 : decode cX9_goOn 34 = .ok (.goto 16, 3) := by decide +kernel
theorem dX9_goOn_37 : decode cX9_goOn 37 = .ok (.aload_n 0, 1) := by decide +kernel
theorem dX9_goOn_38 : decode cX9_goOn 38 = .ok (.getfield 119, 3) := by decide +kernel
theorem dX9_goOn_41 : decode cX9_goOn 41 = .ok (.bipush 6, 2) := by decide +kernel
theorem dX9_goOn_43 : decode cX9_goOn 43 = .ok (.iload_n 1, 1) := by decide +kernel
theorem dX9_goOn_44 : decode cX9_goOn 44 = .ok (.iload_n 3, 1) := by decide +kernel
theorem dX9_goOn_45 : decode cX9_goOn 45 = .ok (.isub, 1) := by decide +kernel
theorem dX9_goOn_46 : decode cX9_goOn 46 = .ok (.imul, 1) := by decide +kernel
theorem dX9_goOn_47 : decode cX9_goOn 47 = .ok (.iload_n 2, 1) := by decide +kernel
theorem dX9_goOn_48 : decode cX9_goOn 48 = .ok (.iadd, 1) := by decide +kernel
theorem dX9_goOn_49 : decode cX9_goOn 49 = .ok (.iaload, 1) := by decide +kernel
theorem dX9_goOn_50 : decode cX9_goOn 50 = .ok (.iadd, 1) := by decide +kernel
theorem dX9_goOn_51 : decode cX9_goOn 51 = .ok (.istore 4, 2) := by decide +kernel
theorem dX9_goOn_53 : decode cX9_goOn 53 = .ok (.iload 4, 2) := by decide +kernel
theorem dX9_goOn_55 : decode cX9_goOn 55 = .ok (.ifCond .ge 7, 3) := by decide +kernel
theorem dX9_goOn_58 : decode cX9_goOn 58 = .ok (.iconst 0, 1) := by decide +kernel
theorem dX9_goOn_59 : decode cX9_goOn 59 = .ok (.goto 5, 3) := by decide +kernel
theorem dX9_goOn_62 : decode cX9_goOn 62 = .ok (.iload 4, 2) := by decide +kernel
theorem dX9_goOn_64 : decode cX9_goOn 64 = .ok (.istore 4, 2) := by decide +kernel
theorem dX9_goOn_66 : decode cX9_goOn 66 = .ok (.aload_n 0, 1) := by decide +kernel
theorem dX9_goOn_67 : decode cX9_goOn 67 = .ok (.getfield 131, 3) := by decide +kernel
theorem dX9_goOn_70 : decode cX9_goOn 70 = .ok (.iload_n 2, 1) := by decide +kernel
theorem dX9_goOn_71 : decode cX9_goOn 71 = .ok (.iload 4, 2) := by decide +kernel
theorem dX9_goOn_73 : decode cX9_goOn 73 = .ok (.aload_n 0, 1) := by decide +kernel
theorem dX9_goOn_74 : decode cX9_goOn 74 = .ok (.iload_n 2, 1) := by decide +kernel
theorem dX9_goOn_75 : decode cX9_goOn 75 = .ok (.invokevirtual 312, 3) := by decide +kernel
theorem dX9_goOn_78 : decode cX9_goOn 78 = .ok (.invokestatic 280, 3) := by decide +kernel
theorem dX9_goOn_81 : decode cX9_goOn 81 = .ok (.iastore, 1) := by decide +kernel
theorem dX9_goOn_82 : decode cX9_goOn 82 = .ok (.iinc 2 1, 3) := by decide +kernel
theorem dX9_goOn_85 : decode cX9_goOn 85 = .ok (.goto (-83), 3) := by decide +kernel
theorem dX9_goOn_88 : decode cX9_goOn 88 = .ok (.iconst 0, 1) := by decide +kernel
theorem dX9_goOn_89 : decode cX9_goOn 89 = .ok (.istore_n 2, 1) := by decide +kernel
theorem dX9_goOn_90 : decode cX9_goOn 90 = .ok (.iload_n 2, 1) := by decide +kernel
theorem dX9_goOn_91 : decode cX9_goOn 91 = .ok (.aload_n 0, 1) := by decide +kernel
theorem dX9_goOn_92 : decode cX9_goOn 92 = .ok (.getfield 46, 3) := by decide +kernel
theorem dX9_goOn_95 : decode cX9_goOn 95 = .ok (.if_icmp .ge 191, 3) := by decide +kernel
theorem dX9_goOn_98 : decode cX9_goOn 98 = .ok (.bipush 6, 2) := by decide +kernel
theorem dX9_goOn_100 : decode cX9_goOn 100 = .ok (.iload_n 1, 1) := by decide +kernel
theorem dX9_goOn_101 : decode cX9_goOn 101 = .ok (.imul, 1) := by decide +kernel
theorem dX9_goOn_102 : decode cX9_goOn 102 = .ok (.iload_n 2, 1) := by decide +kernel
theorem dX9_goOn_103 : decode cX9_goOn 103 = .ok (.iadd, 1) := by decide +kernel
theorem dX9_goOn_104 : decode cX9_goOn 104 = .ok (.istore_n 3, 1) := by decide +kernel
theorem dX9_goOn_105 : decode cX9_goOn 105 = .ok (.aload_n 0, 1) := by decide +kernel
theorem dX9_goOn_106 : decode cX9_goOn 106 = .ok (.getfield 137, 3) := by decide +kernel
theorem dX9_goOn_109 : decode cX9_goOn 109 = .ok (.iload_n 2, 1) := by decide +kernel
theorem dX9_goOn_110 : decode cX9_goOn 110 = .ok (.dup2, 1) := by decide +kernel
theorem dX9_goOn_111 : decode cX9_goOn 111 = .ok (.iaload, 1) := by decide +kernel
theorem dX9_goOn_112 : decode cX9_goOn 112 = .ok (.aload_n 0, 1) := by decide +kernel
theorem dX9_goOn_113 : decode cX9_goOn 113 = .ok (.getfield 131, 3) := by decide +kernel
theorem dX9_goOn_116 : decode cX9_goOn 116 = .ok (.iload_n 2, 1) := by decide +kernel
theorem dX9_goOn_117 : decode cX9_goOn 117 = .ok (.iaload, 1) := by decide +kernel
theorem dX9_goOn_118 : decode cX9_goOn 118 = .ok (.iadd, 1) := by decide +kernel
theorem dX9_goOn_119 : decode cX9_goOn 119 = .ok (.iastore, 1) := by decide +kernel
theorem dX9_goOn_120 : decode cX9_goOn 120 = .ok (.aload_n 0, 1) := by decide +kernel
theorem dX9_goOn_121 : decode cX9_goOn 121 = .ok (.getfield 134, 3) := by decide +kernel
theorem dX9_goOn_124 : decode cX9_goOn 124 = .ok (.iload_n 2, 1) := by decide +kernel
theorem dX9_goOn_125 : decode cX9_goOn 125 = .ok (.dup2, 1) := by decide +kernel
theorem dX9_goOn_126 : decode cX9_goOn 126 = .ok (.iaload, 1) := by decide +kernel
theorem dX9_goOn_127 : decode cX9_goOn 127 = .ok (.iload_n 2, 1) := by decide +kernel
theorem dX9_goOn_128 : decode cX9_goOn 128 = .ok (.ifCond .ne 7, 3) := by decide +kernel
theorem dX9_goOn_131 : decode cX9_goOn 131 = .ok (.iconst 0, 1) := by decide +kernel
theorem dX9_goOn_132 : decode cX9_goOn 132 = .ok (.goto 18, 3) := by decide +kernel
theorem dX9_goOn_135 : decode cX9_goOn 135 = .ok (.aload_n 0, 1) := by decide +kernel
theorem dX9_goOn_136 : decode cX9_goOn 136 = .ok (.getfield 131, 3) := by decide +kernel
theorem dX9_goOn_139 : decode cX9_goOn 139 = .ok (.iload_n 2, 1) := by decide +kernel
theorem dX9_goOn_140 : decode cX9_goOn 140 = .ok (.iconst 1, 1) := by decide +kernel
theorem dX9_goOn_141 : decode cX9_goOn 141 = .ok (.isub, 1) := by decide +kernel
theorem dX9_goOn_142 : decode cX9_goOn 142 = .ok (.iaload, 1) := by decide +kernel
theorem dX9_goOn_143 : decode cX9_goOn 143 = .ok (.aload_n 0, 1) := by decide +kernel
theorem dX9_goOn_144 : decode cX9_goOn 144 = .ok (.getfield 131, 3) := by decide +kernel
theorem dX9_goOn_147 : decode cX9_goOn 147 = .ok (.iload_n 2, 1) := by decide +kernel
theorem dX9_goOn_148 : decode cX9_goOn 148 = .ok (.iaload, 1) := by decide +kernel
theorem dX9_goOn_149 : decode cX9_goOn 149 = .ok (.isub, 1) := by decide +kernel
theorem dX9_goOn_150 : decode cX9_goOn 150 = .ok (.iadd, 1) := by decide +kernel
theorem dX9_goOn_151 : decode cX9_goOn 151 = .ok (.iastore, 1) := by decide +kernel
theorem dX9_goOn_152 : decode cX9_goOn 152 = .ok (.aload_n 0, 1) := by decide +kernel
theorem dX9_goOn_153 : decode cX9_goOn 153 = .ok (.dup, 1) := by decide +kernel
theorem dX9_goOn_154 : decode cX9_goOn 154 = .ok (.getfield 302, 3) := by decide +kernel
theorem dX9_goOn_157 : decode cX9_goOn 157 = .ok (.aload_n 0, 1) := by decide +kernel
theorem dX9_goOn_158 : decode cX9_goOn 158 = .ok (.iload_n 2, 1) := by decide +kernel
theorem dX9_goOn_159 : decode cX9_goOn 159 = .ok (.iload_n 1, 1) := by decide +kernel
theorem dX9_goOn_160 : decode cX9_goOn 160 = .ok (.invokevirtual 298, 3) := by decide +kernel
theorem dX9_goOn_163 : decode cX9_goOn 163 = .ok (.ifCond .eq 17, 3) := by decide +kernel
theorem dX9_goOn_166 : decode cX9_goOn 166 = .ok (.aload_n 0, 1) := by decide +kernel
theorem dX9_goOn_167 : decode cX9_goOn 167 = .ok (.getfield 277, 3) := by decide +kernel
theorem dX9_goOn_170 : decode cX9_goOn 170 = .ok (.aload_n 0, 1) := by decide +kernel
theorem dX9_goOn_171 : decode cX9_goOn 171 = .ok (.getfield 131, 3) := by decide +kernel
theorem dX9_goOn_174 : decode cX9_goOn 174 = .ok (.iload_n 2, 1) := by decide +kernel
theorem dX9_goOn_175 : decode cX9_goOn 175 = .ok (.iaload, 1) := by decide +kernel
theorem dX9_goOn_176 : decode cX9_goOn 176 = .ok (.isub, 1) := by decide +kernel
theorem dX9_goOn_177 : decode cX9_goOn 177 = .ok (.goto 4, 3) := by decide +kernel
theorem dX9_goOn_180 : decode cX9_goOn 180 = .ok (.iconst 0, 1) := by decide +kernel
theorem dX9_goOn_181 : decode cX9_goOn 181 = .ok (.iadd, 1) := by decide +kernel
theorem dX9_goOn_182 : decode cX9_goOn 182 = .ok (.putfield 302, 3) := by decide +kernel
theorem dX9_goOn_185 : decode cX9_goOn 185 = .ok (.aload_n 0, 1) := by decide +kernel
theorem dX9_goOn_186 : decode cX9_goOn 186 = .ok (.getfield 110, 3) := by decide +kernel
theorem dX9_goOn_189 : decode cX9_goOn 189 = .ok (.iload_n 3, 1) := by decide +kernel
theorem dX9_goOn_190 : decode cX9_goOn 190 = .ok (.aload_n 0, 1) := by decide +kernel
theorem dX9_goOn_191 : decode cX9_goOn 191 = .ok (.getfield 131, 3) := by decide +kernel
theorem dX9_goOn_194 : decode cX9_goOn 194 = .ok (.iload_n 2, 1) := by decide +kernel
theorem dX9_goOn_195 : decode cX9_goOn 195 = .ok (.iaload, 1) := by decide +kernel
theorem dX9_goOn_196 : decode cX9_goOn 196 = .ok (.iastore, 1) := by decide +kernel
theorem dX9_goOn_197 : decode cX9_goOn 197 = .ok (.aload_n 0, 1) := by decide +kernel
theorem dX9_goOn_198 : decode cX9_goOn 198 = .ok (.getfield 113, 3) := by decide +kernel
theorem dX9_goOn_201 : decode cX9_goOn 201 = .ok (.iload_n 3, 1) := by decide +kernel
theorem dX9_goOn_202 : decode cX9_goOn 202 = .ok (.aload_n 0, 1) := by decide +kernel
theorem dX9_goOn_203 : decode cX9_goOn 203 = .ok (.getfield 134, 3) := by decide +kernel
theorem dX9_goOn_206 : decode cX9_goOn 206 = .ok (.iload_n 2, 1) := by decide +kernel
theorem dX9_goOn_207 : decode cX9_goOn 207 = .ok (.iaload, 1) := by decide +kernel
theorem dX9_goOn_208 : decode cX9_goOn 208 = .ok (.iastore, 1) := by decide +kernel
theorem dX9_goOn_209 : decode cX9_goOn 209 = .ok (.aload_n 0, 1) := by decide +kernel
theorem dX9_goOn_210 : decode cX9_goOn 210 = .ok (.getfield 116, 3) := by decide +kernel
theorem dX9_goOn_213 : decode cX9_goOn 213 = .ok (.iload_n 3, 1) := by decide +kernel
theorem dX9_goOn_214 : decode cX9_goOn 214 = .ok (.aload_n 0, 1) := by decide +kernel
theorem dX9_goOn_215 : decode cX9_goOn 215 = .ok (.getfield 137, 3) := by decide +kernel
theorem dX9_goOn_218 : decode cX9_goOn 218 = .ok (.iload_n 2, 1) := by decide +kernel
theorem dX9_goOn_219 : decode cX9_goOn 219 = .ok (.iaload, 1) := by decide +kernel
theorem dX9_goOn_220 : decode cX9_goOn 220 = .ok (.iastore, 1) := by decide +kernel
theorem dX9_goOn_221 : decode cX9_goOn 221 = .ok (.iload_n 2, 1) := by decide +kernel
theorem dX9_goOn_222 : decode cX9_goOn 222 = .ok (.ifCond .le 12, 3) := by decide +kernel
theorem dX9_goOn_225 : decode cX9_goOn 225 = .ok (.aload_n 0, 1) := by decide +kernel
theorem dX9_goOn_226 : decode cX9_goOn 226 = .ok (.getfield 134, 3) := by decide +kernel
theorem dX9_goOn_229 : decode cX9_goOn 229 = .ok (.iload_n 2, 1) := by decide +kernel
theorem dX9_goOn_230 : decode cX9_goOn 230 = .ok (.iaload, 1) := by decide +kernel
theorem dX9_goOn_231 : decode cX9_goOn 231 = .ok (.ifCond .le 19, 3) := by decide +kernel
theorem dX9_goOn_234 : decode cX9_goOn 234 = .ok (.aload_n 0, 1) := by decide +kernel
theorem dX9_goOn_235 : decode cX9_goOn 235 = .ok (.iload_n 2, 1) := by decide +kernel
theorem dX9_goOn_236 : decode cX9_goOn 236 = .ok (.iload_n 1, 1) := by decide +kernel
theorem dX9_goOn_237 : decode cX9_goOn 237 = .ok (.invokevirtual 298, 3) := by decide +kernel
theorem dX9_goOn_240 : decode cX9_goOn 240 = .ok (.ifCond .eq 14, 3) := by decide +kernel
theorem dX9_goOn_243 : decode cX9_goOn 243 = .ok (.aload_n 0, 1) := by decide +kernel
theorem dX9_goOn_244 : decode cX9_goOn 244 = .ok (.getfield 302, 3) := by decide +kernel
theorem dX9_goOn_247 : decode cX9_goOn 247 = .ok (.ifCond .gt 7, 3) := by decide +kernel
theorem dX9_goOn_250 : decode cX9_goOn 250 = .ok (.iconst 1, 1) := by decide +kernel
theorem dX9_goOn_251 : decode cX9_goOn 251 = .ok (.goto 4, 3) := by decide +kernel
theorem dX9_goOn_254 : decode cX9_goOn 254 = .ok (.iconst 0, 1) := by decide +kernel
theorem dX9_goOn_255 : decode cX9_goOn 255 = .ok (.istore 4, 2) := by decide +kernel
theorem dX9_goOn_257 : decode cX9_goOn 257 = .ok (.iload 4, 2) := by decide +kernel
theorem dX9_goOn_259 : decode cX9_goOn 259 = .ok (.ifCond .eq 21, 3) := by decide +kernel
theorem dX9_goOn_262 : decode cX9_goOn 262 = .ok (.aload_n 0, 1) := by decide +kernel
theorem dX9_goOn_263 : decode cX9_goOn 263 = .ok (.getfield 284, 3) := by decide +kernel
theorem dX9_goOn_266 : decode cX9_goOn 266 = .ok (.iconst (-1), 1) := by decide +kernel
theorem dX9_goOn_267 : decode cX9_goOn 267 = .ok (.if_icmp .ne 13, 3) := by decide +kernel
theorem dX9_goOn_270 : decode cX9_goOn 270 = .ok (.aload_n 0, 1) := by decide +kernel
theorem dX9_goOn_271 : decode cX9_goOn 271 = .ok (.iload_n 1, 1) := by decide +kernel
theorem dX9_goOn_272 : decode cX9_goOn 272 = .ok (.putfield 284, 3) := by decide +kernel
theorem dX9_goOn_275 : decode cX9_goOn 275 = .ok (.aload_n 0, 1) := by decide +kernel
theorem dX9_goOn_276 : decode cX9_goOn 276 = .ok (.iload_n 2, 1) := by decide +kernel
theorem dX9_goOn_277 : decode cX9_goOn 277 = .ok (.putfield 287, 3) := by decide +kernel
theorem dX9_goOn_280 : decode cX9_goOn 280 = .ok (.iinc 2 1, 3) := by decide +kernel
theorem dX9_goOn_283 : decode cX9_goOn 283 = .ok (.goto (-193), 3) := by decide +kernel
theorem dX9_goOn_286 : decode cX9_goOn 286 = .ok (.return_, 1) := by decide +kernel
theorem dX9_layTold_0 : decode cX9_layTold 0 = .ok (.aload_n 0, 1) := by decide +kernel
theorem dX9_layTold_1 : decode cX9_layTold 1 = .ok (.aload_n 0, 1) := by decide +kernel
theorem dX9_layTold_2 : decode cX9_layTold 2 = .ok (.getfield 53, 3) := by decide +kernel
theorem dX9_layTold_5 : decode cX9_layTold 5 = .ok (.iconst 0, 1) := by decide +kernel
theorem dX9_layTold_6 : decode cX9_layTold 6 = .ok (.iaload, 1) := by decide +kernel
theorem dX9_layTold_7 : decode cX9_layTold 7 = .ok (.aload_n 0, 1) := by decide +kernel
theorem dX9_layTold_8 : decode cX9_layTold 8 = .ok (.getfield 53, 3) := by decide +kernel
theorem dX9_layTold_11 : decode cX9_layTold 11 = .ok (.iconst 2, 1) := by decide +kernel
theorem dX9_layTold_12 : decode cX9_layTold 12 = .ok (.iaload, 1) := by decide +kernel
theorem dX9_layTold_13 : decode cX9_layTold 13 = .ok (.aload_n 0, 1) := by decide +kernel
theorem dX9_layTold_14 : decode cX9_layTold 14 = .ok (.getfield 257, 3) := by decide +kernel
theorem dX9_layTold_17 : decode cX9_layTold 17 = .ok (.invokevirtual 315, 3) := by decide +kernel
theorem dX9_layTold_20 : decode cX9_layTold 20 = .ok (.return_, 1) := by decide +kernel
theorem dX9_at_0 : decode cX9_at 0 = .ok (.aload_n 0, 1) := by decide +kernel
theorem dX9_at_1 : decode cX9_at 1 = .ok (.iload_n 1, 1) := by decide +kernel
theorem dX9_at_2 : decode cX9_at 2 = .ok (.invokevirtual 265, 3) := by decide +kernel
theorem dX9_at_5 : decode cX9_at 5 = .ok (.ifCond .eq 27, 3) := by decide +kernel
theorem dX9_at_8 : decode cX9_at 8 = .ok (.iload_n 2, 1) := by decide +kernel
theorem dX9_at_9 : decode cX9_at 9 = .ok (.i2l, 1) := by decide +kernel
theorem dX9_at_10 : decode cX9_at 10 = .ok (.lconst 0, 1) := by decide +kernel
theorem dX9_at_11 : decode cX9_at 11 = .ok (.ldc2_w 188, 3) := by decide +kernel
theorem dX9_at_14 : decode cX9_at 14 = .ok (.invokestatic 154, 3) := by decide +kernel
theorem dX9_at_17 : decode cX9_at 17 = .ok (.ifCond .eq 15, 3) := by decide +kernel
theorem dX9_at_20 : decode cX9_at 20 = .ok (.iload_n 3, 1) := by decide +kernel
theorem dX9_at_21 : decode cX9_at 21 = .ok (.i2l, 1) := by decide +kernel
theorem dX9_at_22 : decode cX9_at 22 = .ok (.lconst 0, 1) := by decide +kernel
theorem dX9_at_23 : decode cX9_at 23 = .ok (.ldc2_w 158, 3) := by decide +kernel
theorem dX9_at_26 : decode cX9_at 26 = .ok (.invokestatic 154, 3) := by decide +kernel
theorem dX9_at_29 : decode cX9_at 29 = .ok (.ifCond .ne 7, 3) := by decide +kernel
theorem dX9_at_32 : decode cX9_at 32 = .ok (.ldc_w 318, 3) := by decide +kernel
theorem dX9_at_35 : decode cX9_at 35 = .ok (.ireturn, 1) := by decide +kernel
theorem dX9_at_36 : decode cX9_at 36 = .ok (.aload_n 0, 1) := by decide +kernel
theorem dX9_at_37 : decode cX9_at 37 = .ok (.invokevirtual 319, 3) := by decide +kernel
theorem dX9_at_40 : decode cX9_at 40 = .ok (.bipush 6, 2) := by decide +kernel
theorem dX9_at_42 : decode cX9_at 42 = .ok (.iload_n 2, 1) := by decide +kernel
theorem dX9_at_43 : decode cX9_at 43 = .ok (.imul, 1) := by decide +kernel
theorem dX9_at_44 : decode cX9_at 44 = .ok (.iload_n 1, 1) := by decide +kernel
theorem dX9_at_45 : decode cX9_at 45 = .ok (.iadd, 1) := by decide +kernel
theorem dX9_at_46 : decode cX9_at 46 = .ok (.istore 4, 2) := by decide +kernel
theorem dX9_at_48 : decode cX9_at 48 = .ok (.iload_n 3, 1) := by decide +kernel
theorem dX9_at_49 : decode cX9_at 49 = .ok (.ifCond .ne 13, 3) := by decide +kernel
theorem dX9_at_52 : decode cX9_at 52 = .ok (.aload_n 0, 1) := by decide +kernel
theorem dX9_at_53 : decode cX9_at 53 = .ok (.getfield 110, 3) := by decide +kernel
theorem dX9_at_56 : decode cX9_at 56 = .ok (.iload 4, 2) := by decide +kernel
theorem dX9_at_58 : decode cX9_at 58 = .ok (.iaload, 1) := by decide +kernel
theorem dX9_at_59 : decode cX9_at 59 = .ok (.goto 78, 3) := by decide +kernel
theorem dX9_at_62 : decode cX9_at 62 = .ok (.iload_n 3, 1) := by decide +kernel
theorem dX9_at_63 : decode cX9_at 63 = .ok (.iconst 1, 1) := by decide +kernel
theorem dX9_at_64 : decode cX9_at 64 = .ok (.if_icmp .ne 21, 3) := by decide +kernel
theorem dX9_at_67 : decode cX9_at 67 = .ok (.iload_n 1, 1) := by decide +kernel
theorem dX9_at_68 : decode cX9_at 68 = .ok (.ifCond .ne 7, 3) := by decide +kernel
theorem dX9_at_71 : decode cX9_at 71 = .ok (.iconst (-1), 1) := by decide +kernel
theorem dX9_at_72 : decode cX9_at 72 = .ok (.goto 65, 3) := by decide +kernel
theorem dX9_at_75 : decode cX9_at 75 = .ok (.aload_n 0, 1) := by decide +kernel
theorem dX9_at_76 : decode cX9_at 76 = .ok (.getfield 113, 3) := by decide +kernel
theorem dX9_at_79 : decode cX9_at 79 = .ok (.iload 4, 2) := by decide +kernel
theorem dX9_at_81 : decode cX9_at 81 = .ok (.iaload, 1) := by decide +kernel
theorem dX9_at_82 : decode cX9_at 82 = .ok (.goto 55, 3) := by decide +kernel
theorem dX9_at_85 : decode cX9_at 85 = .ok (.iload_n 3, 1) := by decide +kernel
theorem dX9_at_86 : decode cX9_at 86 = .ok (.iconst 2, 1) := by decide +kernel
theorem dX9_at_87 : decode cX9_at 87 = .ok (.if_icmp .ne 13, 3) := by decide +kernel
theorem dX9_at_90 : decode cX9_at 90 = .ok (.aload_n 0, 1) := by decide +kernel
theorem dX9_at_91 : decode cX9_at 91 = .ok (.getfield 116, 3) := by decide +kernel
theorem dX9_at_94 : decode cX9_at 94 = .ok (.iload 4, 2) := by decide +kernel
theorem dX9_at_96 : decode cX9_at 96 = .ok (.iaload, 1) := by decide +kernel
theorem dX9_at_97 : decode cX9_at 97 = .ok (.goto 40, 3) := by decide +kernel
theorem dX9_at_100 : decode cX9_at 100 = .ok (.iload_n 3, 1) := by decide +kernel
theorem dX9_at_101 : decode cX9_at 101 = .ok (.iconst 3, 1) := by decide +kernel
theorem dX9_at_102 : decode cX9_at 102 = .ok (.if_icmp .ne 13, 3) := by decide +kernel
theorem dX9_at_105 : decode cX9_at 105 = .ok (.aload_n 0, 1) := by decide +kernel
theorem dX9_at_106 : decode cX9_at 106 = .ok (.getfield 119, 3) := by decide +kernel
theorem dX9_at_109 : decode cX9_at 109 = .ok (.iload 4, 2) := by decide +kernel
theorem dX9_at_111 : decode cX9_at 111 = .ok (.iaload, 1) := by decide +kernel
theorem dX9_at_112 : decode cX9_at 112 = .ok (.goto 25, 3) := by decide +kernel
theorem dX9_at_115 : decode cX9_at 115 = .ok (.iload_n 3, 1) := by decide +kernel
theorem dX9_at_116 : decode cX9_at 116 = .ok (.iconst 4, 1) := by decide +kernel
theorem dX9_at_117 : decode cX9_at 117 = .ok (.if_icmp .ne 13, 3) := by decide +kernel
theorem dX9_at_120 : decode cX9_at 120 = .ok (.aload_n 0, 1) := by decide +kernel
theorem dX9_at_121 : decode cX9_at 121 = .ok (.getfield 122, 3) := by decide +kernel
theorem dX9_at_124 : decode cX9_at 124 = .ok (.iload 4, 2) := by decide +kernel
theorem dX9_at_126 : decode cX9_at 126 = .ok (.iaload, 1) := by decide +kernel
theorem dX9_at_127 : decode cX9_at 127 = .ok (.goto 10, 3) := by decide +kernel
theorem dX9_at_130 : decode cX9_at 130 = .ok (.aload_n 0, 1) := by decide +kernel
theorem dX9_at_131 : decode cX9_at 131 = .ok (.getfield 125, 3) := by decide +kernel
theorem dX9_at_134 : decode cX9_at 134 = .ok (.iload 4, 2) := by decide +kernel
theorem dX9_at_136 : decode cX9_at 136 = .ok (.iaload, 1) := by decide +kernel
theorem dX9_at_137 : decode cX9_at 137 = .ok (.ireturn, 1) := by decide +kernel
theorem dX9_touch_0 : decode cX9_touch 0 = .ok (.iload_n 1, 1) := by decide +kernel
theorem dX9_touch_1 : decode cX9_touch 1 = .ok (.i2l, 1) := by decide +kernel
theorem dX9_touch_2 : decode cX9_touch 2 = .ok (.lconst 0, 1) := by decide +kernel
theorem dX9_touch_3 : decode cX9_touch 3 = .ok (.lconst 1, 1) := by decide +kernel
theorem dX9_touch_4 : decode cX9_touch 4 = .ok (.invokestatic 154, 3) := by decide +kernel
theorem dX9_touch_7 : decode cX9_touch 7 = .ok (.ifCond .ne 6, 3) := by decide +kernel
theorem dX9_touch_10 : decode cX9_touch 10 = .ok (.bipush (-3), 2) := by decide +kernel
theorem dX9_touch_12 : decode cX9_touch 12 = .ok (.ireturn, 1) := by decide +kernel
theorem dX9_touch_13 : decode cX9_touch 13 = .ok (.aload_n 0, 1) := by decide +kernel
theorem dX9_touch_14 : decode cX9_touch 14 = .ok (.invokevirtual 319, 3) := by decide +kernel
theorem dX9_touch_17 : decode cX9_touch 17 = .ok (.iload_n 1, 1) := by decide +kernel
theorem dX9_touch_18 : decode cX9_touch 18 = .ok (.ifCond .ne 10, 3) := by decide +kernel
theorem dX9_touch_21 : decode cX9_touch 21 = .ok (.aload_n 0, 1) := by decide +kernel
theorem dX9_touch_22 : decode cX9_touch 22 = .ok (.getfield 284, 3) := by decide +kernel
theorem dX9_touch_25 : decode cX9_touch 25 = .ok (.goto 7, 3) := by decide +kernel
theorem dX9_touch_28 : decode cX9_touch 28 = .ok (.aload_n 0, 1) := by decide +kernel
theorem dX9_touch_29 : decode cX9_touch 29 = .ok (.getfield 287, 3) := by decide +kernel
theorem dX9_touch_32 : decode cX9_touch 32 = .ok (.ireturn, 1) := by decide +kernel
theorem dX9_least_0 : decode cX9_least 0 = .ok (.aload_n 0, 1) := by decide +kernel
theorem dX9_least_1 : decode cX9_least 1 = .ok (.iload_n 1, 1) := by decide +kernel
theorem dX9_least_2 : decode cX9_least 2 = .ok (.invokevirtual 265, 3) := by decide +kernel
theorem dX9_least_5 : decode cX9_least 5 = .ok (.ifCond .eq 7, 3) := by decide +kernel
theorem dX9_least_8 : decode cX9_least 8 = .ok (.iload_n 1, 1) := by decide +kernel
theorem dX9_least_9 : decode cX9_least 9 = .ok (.ifCond .ne 7, 3) := by decide +kernel
theorem dX9_least_12 : decode cX9_least 12 = .ok (.ldc_w 318, 3) := by decide +kernel
theorem dX9_least_15 : decode cX9_least 15 = .ok (.ireturn, 1) := by decide +kernel
theorem dX9_least_16 : decode cX9_least 16 = .ok (.aload_n 0, 1) := by decide +kernel
theorem dX9_least_17 : decode cX9_least 17 = .ok (.invokevirtual 319, 3) := by decide +kernel
theorem dX9_least_20 : decode cX9_least 20 = .ok (.ldc_w 322, 3) := by decide +kernel
theorem dX9_least_23 : decode cX9_least 23 = .ok (.istore_n 2, 1) := by decide +kernel
theorem dX9_least_24 : decode cX9_least 24 = .ok (.iconst 0, 1) := by decide +kernel
theorem dX9_least_25 : decode cX9_least 25 = .ok (.istore_n 3, 1) := by decide +kernel
theorem dX9_least_26 : decode cX9_least 26 = .ok (.iload_n 3, 1) := by decide +kernel
theorem dX9_least_27 : decode cX9_least 27 = .ok (.bipush 32, 2) := by decide +kernel
theorem dX9_least_29 : decode cX9_least 29 = .ok (.if_icmp .ge 25, 3) := by decide +kernel
theorem dX9_least_32 : decode cX9_least 32 = .ok (.iload_n 2, 1) := by decide +kernel
theorem dX9_least_33 : decode cX9_least 33 = .ok (.aload_n 0, 1) := by decide +kernel
theorem dX9_least_34 : decode cX9_least 34 = .ok (.getfield 113, 3) := by decide +kernel
theorem dX9_least_37 : decode cX9_least 37 = .ok (.bipush 6, 2) := by decide +kernel
theorem dX9_least_39 : decode cX9_least 39 = .ok (.iload_n 3, 1) := by decide +kernel
theorem dX9_least_40 : decode cX9_least 40 = .ok (.imul, 1) := by decide +kernel
theorem dX9_least_41 : decode cX9_least 41 = .ok (.iload_n 1, 1) := by decide +kernel
theorem dX9_least_42 : decode cX9_least 42 = .ok (.iadd, 1) := by decide +kernel
theorem dX9_least_43 : decode cX9_least 43 = .ok (.iaload, 1) := by decide +kernel
theorem dX9_least_44 : decode cX9_least 44 = .ok (.invokestatic 280, 3) := by decide +kernel
theorem dX9_least_47 : decode cX9_least 47 = .ok (.istore_n 2, 1) := by decide +kernel
theorem dX9_least_48 : decode cX9_least 48 = .ok (.iinc 3 1, 3) := by decide +kernel
theorem dX9_least_51 : decode cX9_least 51 = .ok (.goto (-25), 3) := by decide +kernel
theorem dX9_least_54 : decode cX9_least 54 = .ok (.iload_n 2, 1) := by decide +kernel
theorem dX9_least_55 : decode cX9_least 55 = .ok (.ireturn, 1) := by decide +kernel
theorem dX9_dipOf_0 : decode cX9_dipOf 0 = .ok (.aload_n 0, 1) := by decide +kernel
theorem dX9_dipOf_1 : decode cX9_dipOf 1 = .ok (.getfield 53, 3) := by decide +kernel
theorem dX9_dipOf_4 : decode cX9_dipOf 4 = .ok (.iconst 1, 1) := by decide +kernel
theorem dX9_dipOf_5 : decode cX9_dipOf 5 = .ok (.iaload, 1) := by decide +kernel
theorem dX9_dipOf_6 : decode cX9_dipOf 6 = .ok (.istore_n 2, 1) := by decide +kernel
theorem dX9_dipOf_7 : decode cX9_dipOf 7 = .ok (.iconst 0, 1) := by decide +kernel
theorem dX9_dipOf_8 : decode cX9_dipOf 8 = .ok (.istore_n 3, 1) := by decide +kernel
theorem dX9_dipOf_9 : decode cX9_dipOf 9 = .ok (.iload_n 3, 1) := by decide +kernel
theorem dX9_dipOf_10 : decode cX9_dipOf 10 = .ok (.bipush 32, 2) := by decide +kernel
theorem dX9_dipOf_12 : decode cX9_dipOf 12 = .ok (.if_icmp .ge 25, 3) := by decide +kernel
theorem dX9_dipOf_15 : decode cX9_dipOf 15 = .ok (.iload_n 2, 1) := by decide +kernel
theorem dX9_dipOf_16 : decode cX9_dipOf 16 = .ok (.aload_n 0, 1) := by decide +kernel
theorem dX9_dipOf_17 : decode cX9_dipOf 17 = .ok (.getfield 110, 3) := by decide +kernel
theorem dX9_dipOf_20 : decode cX9_dipOf 20 = .ok (.bipush 6, 2) := by decide +kernel
theorem dX9_dipOf_22 : decode cX9_dipOf 22 = .ok (.iload_n 3, 1) := by decide +kernel
theorem dX9_dipOf_23 : decode cX9_dipOf 23 = .ok (.imul, 1) := by decide +kernel
theorem dX9_dipOf_24 : decode cX9_dipOf 24 = .ok (.iload_n 1, 1) := by decide +kernel
theorem dX9_dipOf_25 : decode cX9_dipOf 25 = .ok (.iadd, 1) := by decide +kernel
theorem dX9_dipOf_26 : decode cX9_dipOf 26 = .ok (.iaload, 1) := by decide +kernel
theorem dX9_dipOf_27 : decode cX9_dipOf 27 = .ok (.invokestatic 280, 3) := by decide +kernel
theorem dX9_dipOf_30 : decode cX9_dipOf 30 = .ok (.istore_n 2, 1) := by decide +kernel
theorem dX9_dipOf_31 : decode cX9_dipOf 31 = .ok (.iinc 3 1, 3) := by decide +kernel
theorem dX9_dipOf_34 : decode cX9_dipOf 34 = .ok (.goto (-25), 3) := by decide +kernel
theorem dX9_dipOf_37 : decode cX9_dipOf 37 = .ok (.aload_n 0, 1) := by decide +kernel
theorem dX9_dipOf_38 : decode cX9_dipOf 38 = .ok (.getfield 53, 3) := by decide +kernel
theorem dX9_dipOf_41 : decode cX9_dipOf 41 = .ok (.iconst 1, 1) := by decide +kernel
theorem dX9_dipOf_42 : decode cX9_dipOf 42 = .ok (.iaload, 1) := by decide +kernel
theorem dX9_dipOf_43 : decode cX9_dipOf 43 = .ok (.iload_n 2, 1) := by decide +kernel
theorem dX9_dipOf_44 : decode cX9_dipOf 44 = .ok (.isub, 1) := by decide +kernel
theorem dX9_dipOf_45 : decode cX9_dipOf 45 = .ok (.ireturn, 1) := by decide +kernel
theorem dX9_dip_0 : decode cX9_dip 0 = .ok (.aload_n 0, 1) := by decide +kernel
theorem dX9_dip_1 : decode cX9_dip 1 = .ok (.iload_n 1, 1) := by decide +kernel
theorem dX9_dip_2 : decode cX9_dip 2 = .ok (.invokevirtual 265, 3) := by decide +kernel
theorem dX9_dip_5 : decode cX9_dip 5 = .ok (.ifCond .ne 6, 3) := by decide +kernel
theorem dX9_dip_8 : decode cX9_dip 8 = .ok (.bipush (-2), 2) := by decide +kernel
theorem dX9_dip_10 : decode cX9_dip 10 = .ok (.ireturn, 1) := by decide +kernel
theorem dX9_dip_11 : decode cX9_dip 11 = .ok (.aload_n 0, 1) := by decide +kernel
theorem dX9_dip_12 : decode cX9_dip 12 = .ok (.invokevirtual 319, 3) := by decide +kernel
theorem dX9_dip_15 : decode cX9_dip 15 = .ok (.aload_n 0, 1) := by decide +kernel
theorem dX9_dip_16 : decode cX9_dip 16 = .ok (.iload_n 1, 1) := by decide +kernel
theorem dX9_dip_17 : decode cX9_dip 17 = .ok (.invokevirtual 323, 3) := by decide +kernel
theorem dX9_dip_20 : decode cX9_dip 20 = .ok (.ireturn, 1) := by decide +kernel
theorem dX9_grows_0 : decode cX9_grows 0 = .ok (.aload_n 0, 1) := by decide +kernel
theorem dX9_grows_1 : decode cX9_grows 1 = .ok (.invokevirtual 319, 3) := by decide +kernel
theorem dX9_grows_4 : decode cX9_grows 4 = .ok (.iconst 0, 1) := by decide +kernel
theorem dX9_grows_5 : decode cX9_grows 5 = .ok (.istore_n 1, 1) := by decide +kernel
theorem dX9_grows_6 : decode cX9_grows 6 = .ok (.iconst 1, 1) := by decide +kernel
theorem dX9_grows_7 : decode cX9_grows 7 = .ok (.istore_n 2, 1) := by decide +kernel
theorem dX9_grows_8 : decode cX9_grows 8 = .ok (.iload_n 2, 1) := by decide +kernel
theorem dX9_grows_9 : decode cX9_grows 9 = .ok (.aload_n 0, 1) := by decide +kernel
theorem dX9_grows_10 : decode cX9_grows 10 = .ok (.getfield 46, 3) := by decide +kernel
theorem dX9_grows_13 : decode cX9_grows 13 = .ok (.if_icmp .ge 34, 3) := by decide +kernel
theorem dX9_grows_16 : decode cX9_grows 16 = .ok (.iload_n 1, 1) := by decide +kernel
theorem dX9_grows_17 : decode cX9_grows 17 = .ok (.aload_n 0, 1) := by decide +kernel
theorem dX9_grows_18 : decode cX9_grows 18 = .ok (.iload_n 2, 1) := by decide +kernel
theorem dX9_grows_19 : decode cX9_grows 19 = .ok (.invokevirtual 323, 3) := by decide +kernel
theorem dX9_grows_22 : decode cX9_grows 22 = .ok (.aload_n 0, 1) := by decide +kernel
theorem dX9_grows_23 : decode cX9_grows 23 = .ok (.iload_n 2, 1) := by decide +kernel
theorem dX9_grows_24 : decode cX9_grows 24 = .ok (.iconst 1, 1) := by decide +kernel
theorem dX9_grows_25 : decode cX9_grows 25 = .ok (.isub, 1) := by decide +kernel
theorem dX9_grows_26 : decode cX9_grows 26 = .ok (.invokevirtual 323, 3) := by decide +kernel
theorem dX9_grows_29 : decode cX9_grows 29 = .ok (.if_icmp .le 9, 3) := by decide +kernel
theorem dX9_grows_32 : decode cX9_grows 32 = .ok (.iconst 1, 1) := by decide +kernel
theorem dX9_grows_33 : decode cX9_grows 33 = .ok (.iload_n 2, 1) := by decide +kernel
theorem dX9_grows_34 : decode cX9_grows 34 = .ok (.ishl, 1) := by decide +kernel
theorem dX9_grows_35 : decode cX9_grows 35 = .ok (.goto 4, 3) := by decide +kernel
theorem dX9_grows_38 : decode cX9_grows 38 = .ok (.iconst 0, 1) := by decide +kernel
theorem dX9_grows_39 : decode cX9_grows 39 = .ok (.ior, 1) := by decide +kernel
theorem dX9_grows_40 : decode cX9_grows 40 = .ok (.istore_n 1, 1) := by decide +kernel
theorem dX9_grows_41 : decode cX9_grows 41 = .ok (.iinc 2 1, 3) := by decide +kernel
theorem dX9_grows_44 : decode cX9_grows 44 = .ok (.goto (-36), 3) := by decide +kernel
theorem dX9_grows_47 : decode cX9_grows 47 = .ok (.iload_n 1, 1) := by decide +kernel
theorem dX9_grows_48 : decode cX9_grows 48 = .ok (.ireturn, 1) := by decide +kernel
theorem dX9_bits_0 : decode cX9_bits 0 = .ok (.iconst 0, 1) := by decide +kernel
theorem dX9_bits_1 : decode cX9_bits 1 = .ok (.istore_n 1, 1) := by decide +kernel
theorem dX9_bits_2 : decode cX9_bits 2 = .ok (.iconst 0, 1) := by decide +kernel
theorem dX9_bits_3 : decode cX9_bits 3 = .ok (.istore_n 2, 1) := by decide +kernel
theorem dX9_bits_4 : decode cX9_bits 4 = .ok (.iload_n 2, 1) := by decide +kernel
theorem dX9_bits_5 : decode cX9_bits 5 = .ok (.bipush 8, 2) := by decide +kernel
theorem dX9_bits_7 : decode cX9_bits 7 = .ok (.if_icmp .ge 17, 3) := by decide +kernel
theorem dX9_bits_10 : decode cX9_bits 10 = .ok (.iload_n 1, 1) := by decide +kernel
theorem dX9_bits_11 : decode cX9_bits 11 = .ok (.iload_n 0, 1) := by decide +kernel
theorem dX9_bits_12 : decode cX9_bits 12 = .ok (.iload_n 2, 1) := by decide +kernel
theorem dX9_bits_13 : decode cX9_bits 13 = .ok (.ishr, 1) := by decide +kernel
theorem dX9_bits_14 : decode cX9_bits 14 = .ok (.iconst 1, 1) := by decide +kernel
theorem dX9_bits_15 : decode cX9_bits 15 = .ok (.iand, 1) := by decide +kernel
theorem dX9_bits_16 : decode cX9_bits 16 = .ok (.iadd, 1) := by decide +kernel
theorem dX9_bits_17 : decode cX9_bits 17 = .ok (.istore_n 1, 1) := by decide +kernel
theorem dX9_bits_18 : decode cX9_bits 18 = .ok (.iinc 2 1, 3) := by decide +kernel
theorem dX9_bits_21 : decode cX9_bits 21 = .ok (.goto (-17), 3) := by decide +kernel
theorem dX9_bits_24 : decode cX9_bits 24 = .ok (.iload_n 1, 1) := by decide +kernel
theorem dX9_bits_25 : decode cX9_bits 25 = .ok (.ireturn, 1) := by decide +kernel
theorem dX9_worstOf_0 : decode cX9_worstOf 0 = .ok (.iconst 0, 1) := by decide +kernel
theorem dX9_worstOf_1 : decode cX9_worstOf 1 = .ok (.istore 4, 2) := by decide +kernel
theorem dX9_worstOf_3 : decode cX9_worstOf 3 = .ok (.iload 4, 2) := by decide +kernel
theorem dX9_worstOf_5 : decode cX9_worstOf 5 = .ok (.iload_n 2, 1) := by decide +kernel
theorem dX9_worstOf_6 : decode cX9_worstOf 6 = .ok (.if_icmp .gt 62, 3) := by decide +kernel
theorem dX9_worstOf_9 : decode cX9_worstOf 9 = .ok (.iconst 0, 1) := by decide +kernel
theorem dX9_worstOf_10 : decode cX9_worstOf 10 = .ok (.istore 5, 2) := by decide +kernel
theorem dX9_worstOf_12 : decode cX9_worstOf 12 = .ok (.iload 5, 2) := by decide +kernel
theorem dX9_worstOf_14 : decode cX9_worstOf 14 = .ok (.sipush 256, 3) := by decide +kernel
theorem dX9_worstOf_17 : decode cX9_worstOf 17 = .ok (.if_icmp .ge 45, 3) := by decide +kernel
theorem dX9_worstOf_20 : decode cX9_worstOf 20 = .ok (.iload 5, 2) := by decide +kernel
theorem dX9_worstOf_22 : decode cX9_worstOf 22 = .ok (.invokestatic 326, 3) := by decide +kernel
theorem dX9_worstOf_25 : decode cX9_worstOf 25 = .ok (.iload_n 3, 1) := by decide +kernel
theorem dX9_worstOf_26 : decode cX9_worstOf 26 = .ok (.if_icmp .gt 30, 3) := by decide +kernel
theorem dX9_worstOf_29 : decode cX9_worstOf 29 = .ok (.aload_n 0, 1) := by decide +kernel
theorem dX9_worstOf_30 : decode cX9_worstOf 30 = .ok (.iload_n 1, 1) := by decide +kernel
theorem dX9_worstOf_31 : decode cX9_worstOf 31 = .ok (.iload 4, 2) := by decide +kernel
theorem dX9_worstOf_33 : decode cX9_worstOf 33 = .ok (.iload 5, 2) := by decide +kernel
theorem dX9_worstOf_35 : decode cX9_worstOf 35 = .ok (.invokevirtual 315, 3) := by decide +kernel
theorem dX9_worstOf_38 : decode cX9_worstOf 38 = .ok (.aload_n 0, 1) := by decide +kernel
theorem dX9_worstOf_39 : decode cX9_worstOf 39 = .ok (.getfield 284, 3) := by decide +kernel
theorem dX9_worstOf_42 : decode cX9_worstOf 42 = .ok (.iconst (-1), 1) := by decide +kernel
theorem dX9_worstOf_43 : decode cX9_worstOf 43 = .ok (.if_icmp .eq 13, 3) := by decide +kernel
theorem dX9_worstOf_46 : decode cX9_worstOf 46 = .ok (.sipush 256, 3) := by decide +kernel
theorem dX9_worstOf_49 : decode cX9_worstOf 49 = .ok (.iload 4, 2) := by decide +kernel
theorem dX9_worstOf_51 : decode cX9_worstOf 51 = .ok (.imul, 1) := by decide +kernel
theorem dX9_worstOf_52 : decode cX9_worstOf 52 = .ok (.iload 5, 2) := by decide +kernel
theorem dX9_worstOf_54 : decode cX9_worstOf 54 = .ok (.iadd, 1) := by decide +kernel
theorem dX9_worstOf_55 : decode cX9_worstOf 55 = .ok (.ireturn, 1) := by decide +kernel
theorem dX9_worstOf_56 : decode cX9_worstOf 56 = .ok (.iinc 5 1, 3) := by decide +kernel
theorem dX9_worstOf_59 : decode cX9_worstOf 59 = .ok (.goto (-47), 3) := by decide +kernel
theorem dX9_worstOf_62 : decode cX9_worstOf 62 = .ok (.iinc 4 1, 3) := by decide +kernel
theorem dX9_worstOf_65 : decode cX9_worstOf 65 = .ok (.goto (-62), 3) := by decide +kernel
theorem dX9_worstOf_68 : decode cX9_worstOf 68 = .ok (.iconst (-1), 1) := by decide +kernel
theorem dX9_worstOf_69 : decode cX9_worstOf 69 = .ok (.ireturn, 1) := by decide +kernel
theorem dX9_areMishaps_0 : decode cX9_areMishaps 0 = .ok (.iload_n 0, 1) := by decide +kernel
theorem dX9_areMishaps_1 : decode cX9_areMishaps 1 = .ok (.i2l, 1) := by decide +kernel
theorem dX9_areMishaps_2 : decode cX9_areMishaps 2 = .ok (.lconst 0, 1) := by decide +kernel
theorem dX9_areMishaps_3 : decode cX9_areMishaps 3 = .ok (.ldc2_w 248, 3) := by decide +kernel
theorem dX9_areMishaps_6 : decode cX9_areMishaps 6 = .ok (.invokestatic 154, 3) := by decide +kernel
theorem dX9_areMishaps_9 : decode cX9_areMishaps 9 = .ok (.ifCond .eq 19, 3) := by decide +kernel
theorem dX9_areMishaps_12 : decode cX9_areMishaps 12 = .ok (.iload_n 1, 1) := by decide +kernel
theorem dX9_areMishaps_13 : decode cX9_areMishaps 13 = .ok (.i2l, 1) := by decide +kernel
theorem dX9_areMishaps_14 : decode cX9_areMishaps 14 = .ok (.lconst 0, 1) := by decide +kernel
theorem dX9_areMishaps_15 : decode cX9_areMishaps 15 = .ok (.ldc2_w 329, 3) := by decide +kernel
theorem dX9_areMishaps_18 : decode cX9_areMishaps 18 = .ok (.invokestatic 154, 3) := by decide +kernel
theorem dX9_areMishaps_21 : decode cX9_areMishaps 21 = .ok (.ifCond .eq 7, 3) := by decide +kernel
theorem dX9_areMishaps_24 : decode cX9_areMishaps 24 = .ok (.iconst 1, 1) := by decide +kernel
theorem dX9_areMishaps_25 : decode cX9_areMishaps 25 = .ok (.goto 4, 3) := by decide +kernel
theorem dX9_areMishaps_28 : decode cX9_areMishaps 28 = .ok (.iconst 0, 1) := by decide +kernel
theorem dX9_areMishaps_29 : decode cX9_areMishaps 29 = .ok (.ireturn, 1) := by decide +kernel
theorem dX9_safe_0 : decode cX9_safe 0 = .ok (.iload_n 1, 1) := by decide +kernel
theorem dX9_safe_1 : decode cX9_safe 1 = .ok (.i2l, 1) := by decide +kernel
theorem dX9_safe_2 : decode cX9_safe 2 = .ok (.lconst 1, 1) := by decide +kernel
theorem dX9_safe_3 : decode cX9_safe 3 = .ok (.ldc2_w 250, 3) := by decide +kernel
theorem dX9_safe_6 : decode cX9_safe 6 = .ok (.invokestatic 154, 3) := by decide +kernel
theorem dX9_safe_9 : decode cX9_safe 9 = .ok (.ifCond .eq 11, 3) := by decide +kernel
theorem dX9_safe_12 : decode cX9_safe 12 = .ok (.iload_n 2, 1) := by decide +kernel
theorem dX9_safe_13 : decode cX9_safe 13 = .ok (.iload_n 3, 1) := by decide +kernel
theorem dX9_safe_14 : decode cX9_safe 14 = .ok (.invokestatic 331, 3) := by decide +kernel
theorem dX9_safe_17 : decode cX9_safe 17 = .ok (.ifCond .ne 8, 3) := by decide +kernel
theorem dX9_safe_20 : decode cX9_safe 20 = .ok (.bipush (-3), 2) := by decide +kernel
theorem dX9_safe_22 : decode cX9_safe 22 = .ok (.goto 19, 3) := by decide +kernel
theorem dX9_safe_25 : decode cX9_safe 25 = .ok (.aload_n 0, 1) := by decide +kernel
theorem dX9_safe_26 : decode cX9_safe 26 = .ok (.iload_n 1, 1) := by decide +kernel
theorem dX9_safe_27 : decode cX9_safe 27 = .ok (.iload_n 2, 1) := by decide +kernel
theorem dX9_safe_28 : decode cX9_safe 28 = .ok (.iload_n 3, 1) := by decide +kernel
theorem dX9_safe_29 : decode cX9_safe 29 = .ok (.invokevirtual 334, 3) := by decide +kernel
theorem dX9_safe_32 : decode cX9_safe 32 = .ok (.iconst (-1), 1) := by decide +kernel
theorem dX9_safe_33 : decode cX9_safe 33 = .ok (.if_icmp .ne 7, 3) := by decide +kernel
theorem dX9_safe_36 : decode cX9_safe 36 = .ok (.iconst 1, 1) := by decide +kernel
theorem dX9_safe_37 : decode cX9_safe 37 = .ok (.goto 4, 3) := by decide +kernel
theorem dX9_safe_40 : decode cX9_safe 40 = .ok (.iconst 0, 1) := by decide +kernel
theorem dX9_safe_41 : decode cX9_safe 41 = .ok (.ireturn, 1) := by decide +kernel
theorem dX9_need_0 : decode cX9_need 0 = .ok (.iload_n 1, 1) := by decide +kernel
theorem dX9_need_1 : decode cX9_need 1 = .ok (.iload_n 2, 1) := by decide +kernel
theorem dX9_need_2 : decode cX9_need 2 = .ok (.invokestatic 331, 3) := by decide +kernel
theorem dX9_need_5 : decode cX9_need 5 = .ok (.ifCond .ne 6, 3) := by decide +kernel
theorem dX9_need_8 : decode cX9_need 8 = .ok (.bipush (-3), 2) := by decide +kernel
theorem dX9_need_10 : decode cX9_need 10 = .ok (.ireturn, 1) := by decide +kernel
theorem dX9_need_11 : decode cX9_need 11 = .ok (.iconst 1, 1) := by decide +kernel
theorem dX9_need_12 : decode cX9_need 12 = .ok (.istore_n 3, 1) := by decide +kernel
theorem dX9_need_13 : decode cX9_need 13 = .ok (.iload_n 3, 1) := by decide +kernel
theorem dX9_need_14 : decode cX9_need 14 = .ok (.bipush 60, 2) := by decide +kernel
theorem dX9_need_16 : decode cX9_need 16 = .ok (.if_icmp .gt 22, 3) := by decide +kernel
theorem dX9_need_19 : decode cX9_need 19 = .ok (.aload_n 0, 1) := by decide +kernel
theorem dX9_need_20 : decode cX9_need 20 = .ok (.iload_n 3, 1) := by decide +kernel
theorem dX9_need_21 : decode cX9_need 21 = .ok (.iload_n 1, 1) := by decide +kernel
theorem dX9_need_22 : decode cX9_need 22 = .ok (.iload_n 2, 1) := by decide +kernel
theorem dX9_need_23 : decode cX9_need 23 = .ok (.invokevirtual 334, 3) := by decide +kernel
theorem dX9_need_26 : decode cX9_need 26 = .ok (.iconst (-1), 1) := by decide +kernel
theorem dX9_need_27 : decode cX9_need 27 = .ok (.if_icmp .ne 5, 3) := by decide +kernel
theorem dX9_need_30 : decode cX9_need 30 = .ok (.iload_n 3, 1) := by decide +kernel
theorem dX9_need_31 : decode cX9_need 31 = .ok (.ireturn, 1) := by decide +kernel
theorem dX9_need_32 : decode cX9_need 32 = .ok (.iinc 3 1, 3) := by decide +kernel
theorem dX9_need_35 : decode cX9_need 35 = .ok (.goto (-22), 3) := by decide +kernel
theorem dX9_need_38 : decode cX9_need 38 = .ok (.iconst (-1), 1) := by decide +kernel
theorem dX9_need_39 : decode cX9_need 39 = .ok (.ireturn, 1) := by decide +kernel
theorem dX9_worst_0 : decode cX9_worst 0 = .ok (.iload_n 1, 1) := by decide +kernel
theorem dX9_worst_1 : decode cX9_worst 1 = .ok (.i2l, 1) := by decide +kernel
theorem dX9_worst_2 : decode cX9_worst 2 = .ok (.lconst 1, 1) := by decide +kernel
theorem dX9_worst_3 : decode cX9_worst 3 = .ok (.ldc2_w 250, 3) := by decide +kernel
theorem dX9_worst_6 : decode cX9_worst 6 = .ok (.invokestatic 154, 3) := by decide +kernel
theorem dX9_worst_9 : decode cX9_worst 9 = .ok (.ifCond .eq 21, 3) := by decide +kernel
theorem dX9_worst_12 : decode cX9_worst 12 = .ok (.iload_n 2, 1) := by decide +kernel
theorem dX9_worst_13 : decode cX9_worst 13 = .ok (.iload_n 3, 1) := by decide +kernel
theorem dX9_worst_14 : decode cX9_worst 14 = .ok (.invokestatic 331, 3) := by decide +kernel
theorem dX9_worst_17 : decode cX9_worst 17 = .ok (.ifCond .eq 13, 3) := by decide +kernel
theorem dX9_worst_20 : decode cX9_worst 20 = .ok (.aload_n 0, 1) := by decide +kernel
theorem dX9_worst_21 : decode cX9_worst 21 = .ok (.iload_n 1, 1) := by decide +kernel
theorem dX9_worst_22 : decode cX9_worst 22 = .ok (.iload_n 2, 1) := by decide +kernel
theorem dX9_worst_23 : decode cX9_worst 23 = .ok (.iload_n 3, 1) := by decide +kernel
theorem dX9_worst_24 : decode cX9_worst 24 = .ok (.invokevirtual 334, 3) := by decide +kernel
theorem dX9_worst_27 : decode cX9_worst 27 = .ok (.goto 5, 3) := by decide +kernel
theorem dX9_worst_30 : decode cX9_worst 30 = .ok (.bipush (-3), 2) := by decide +kernel
theorem dX9_worst_32 : decode cX9_worst 32 = .ok (.ireturn, 1) := by decide +kernel
theorem dX9_sparing_0 : decode cX9_sparing 0 = .ok (.aload_n 0, 1) := by decide +kernel
theorem dX9_sparing_1 : decode cX9_sparing 1 = .ok (.invokevirtual 319, 3) := by decide +kernel
theorem dX9_sparing_4 : decode cX9_sparing 4 = .ok (.aload_n 0, 1) := by decide +kernel
theorem dX9_sparing_5 : decode cX9_sparing 5 = .ok (.getfield 284, 3) := by decide +kernel
theorem dX9_sparing_8 : decode cX9_sparing 8 = .ok (.iconst (-1), 1) := by decide +kernel
theorem dX9_sparing_9 : decode cX9_sparing 9 = .ok (.if_icmp .ne 5, 3) := by decide +kernel
theorem dX9_sparing_12 : decode cX9_sparing 12 = .ok (.iconst 0, 1) := by decide +kernel
theorem dX9_sparing_13 : decode cX9_sparing 13 = .ok (.ireturn, 1) := by decide +kernel
theorem dX9_sparing_14 : decode cX9_sparing 14 = .ok (.iconst 0, 1) := by decide +kernel
theorem dX9_sparing_15 : decode cX9_sparing 15 = .ok (.istore_n 1, 1) := by decide +kernel
theorem dX9_sparing_16 : decode cX9_sparing 16 = .ok (.iconst 0, 1) := by decide +kernel
theorem dX9_sparing_17 : decode cX9_sparing 17 = .ok (.istore_n 2, 1) := by decide +kernel
theorem dX9_sparing_18 : decode cX9_sparing 18 = .ok (.iload_n 2, 1) := by decide +kernel
theorem dX9_sparing_19 : decode cX9_sparing 19 = .ok (.bipush 32, 2) := by decide +kernel
theorem dX9_sparing_21 : decode cX9_sparing 21 = .ok (.if_icmp .ge 65, 3) := by decide +kernel
theorem dX9_sparing_24 : decode cX9_sparing 24 = .ok (.aload_n 0, 1) := by decide +kernel
theorem dX9_sparing_25 : decode cX9_sparing 25 = .ok (.getfield 257, 3) := by decide +kernel
theorem dX9_sparing_28 : decode cX9_sparing 28 = .ok (.iload_n 2, 1) := by decide +kernel
theorem dX9_sparing_29 : decode cX9_sparing 29 = .ok (.ishr, 1) := by decide +kernel
theorem dX9_sparing_30 : decode cX9_sparing 30 = .ok (.iconst 1, 1) := by decide +kernel
theorem dX9_sparing_31 : decode cX9_sparing 31 = .ok (.iand, 1) := by decide +kernel
theorem dX9_sparing_32 : decode cX9_sparing 32 = .ok (.iconst 1, 1) := by decide +kernel
theorem dX9_sparing_33 : decode cX9_sparing 33 = .ok (.if_icmp .ne 47, 3) := by decide +kernel
theorem dX9_sparing_36 : decode cX9_sparing 36 = .ok (.aload_n 0, 1) := by decide +kernel
theorem dX9_sparing_37 : decode cX9_sparing 37 = .ok (.aload_n 0, 1) := by decide +kernel
theorem dX9_sparing_38 : decode cX9_sparing 38 = .ok (.getfield 53, 3) := by decide +kernel
theorem dX9_sparing_41 : decode cX9_sparing 41 = .ok (.iconst 0, 1) := by decide +kernel
theorem dX9_sparing_42 : decode cX9_sparing 42 = .ok (.iaload, 1) := by decide +kernel
theorem dX9_sparing_43 : decode cX9_sparing 43 = .ok (.aload_n 0, 1) := by decide +kernel
theorem dX9_sparing_44 : decode cX9_sparing 44 = .ok (.getfield 53, 3) := by decide +kernel
theorem dX9_sparing_47 : decode cX9_sparing 47 = .ok (.iconst 2, 1) := by decide +kernel
theorem dX9_sparing_48 : decode cX9_sparing 48 = .ok (.iaload, 1) := by decide +kernel
theorem dX9_sparing_49 : decode cX9_sparing 49 = .ok (.aload_n 0, 1) := by decide +kernel
theorem dX9_sparing_50 : decode cX9_sparing 50 = .ok (.getfield 257, 3) := by decide +kernel
theorem dX9_sparing_53 : decode cX9_sparing 53 = .ok (.iconst 1, 1) := by decide +kernel
theorem dX9_sparing_54 : decode cX9_sparing 54 = .ok (.iload_n 2, 1) := by decide +kernel
theorem dX9_sparing_55 : decode cX9_sparing 55 = .ok (.ishl, 1) := by decide +kernel
theorem dX9_sparing_56 : decode cX9_sparing 56 = .ok (.iconst (-1), 1) := by decide +kernel
theorem dX9_sparing_57 : decode cX9_sparing 57 = .ok (.ixor, 1) := by decide +kernel
theorem dX9_sparing_58 : decode cX9_sparing 58 = .ok (.iand, 1) := by decide +kernel
theorem dX9_sparing_59 : decode cX9_sparing 59 = .ok (.invokevirtual 315, 3) := by decide +kernel
theorem dX9_sparing_62 : decode cX9_sparing 62 = .ok (.iload_n 1, 1) := by decide +kernel
theorem dX9_sparing_63 : decode cX9_sparing 63 = .ok (.aload_n 0, 1) := by decide +kernel
theorem dX9_sparing_64 : decode cX9_sparing 64 = .ok (.getfield 284, 3) := by decide +kernel
theorem dX9_sparing_67 : decode cX9_sparing 67 = .ok (.iconst (-1), 1) := by decide +kernel
theorem dX9_sparing_68 : decode cX9_sparing 68 = .ok (.if_icmp .ne 9, 3) := by decide +kernel
theorem dX9_sparing_71 : decode cX9_sparing 71 = .ok (.iconst 1, 1) := by decide +kernel
theorem dX9_sparing_72 : decode cX9_sparing 72 = .ok (.iload_n 2, 1) := by decide +kernel
theorem dX9_sparing_73 : decode cX9_sparing 73 = .ok (.ishl, 1) := by decide +kernel
theorem dX9_sparing_74 : decode cX9_sparing 74 = .ok (.goto 4, 3) := by decide +kernel
theorem dX9_sparing_77 : decode cX9_sparing 77 = .ok (.iconst 0, 1) := by decide +kernel
theorem dX9_sparing_78 : decode cX9_sparing 78 = .ok (.ior, 1) := by decide +kernel
theorem dX9_sparing_79 : decode cX9_sparing 79 = .ok (.istore_n 1, 1) := by decide +kernel
theorem dX9_sparing_80 : decode cX9_sparing 80 = .ok (.iinc 2 1, 3) := by decide +kernel
theorem dX9_sparing_83 : decode cX9_sparing 83 = .ok (.goto (-65), 3) := by decide +kernel
theorem dX9_sparing_86 : decode cX9_sparing 86 = .ok (.iload_n 1, 1) := by decide +kernel
theorem dX9_sparing_87 : decode cX9_sparing 87 = .ok (.ireturn, 1) := by decide +kernel
theorem dX9_bears_0 : decode cX9_bears 0 = .ok (.iload_n 1, 1) := by decide +kernel
theorem dX9_bears_1 : decode cX9_bears 1 = .ok (.i2l, 1) := by decide +kernel
theorem dX9_bears_2 : decode cX9_bears 2 = .ok (.lconst 0, 1) := by decide +kernel
theorem dX9_bears_3 : decode cX9_bears 3 = .ok (.ldc2_w 260, 3) := by decide +kernel
theorem dX9_bears_6 : decode cX9_bears 6 = .ok (.invokestatic 154, 3) := by decide +kernel
theorem dX9_bears_9 : decode cX9_bears 9 = .ok (.ifCond .eq 16, 3) := by decide +kernel
theorem dX9_bears_12 : decode cX9_bears 12 = .ok (.iload_n 2, 1) := by decide +kernel
theorem dX9_bears_13 : decode cX9_bears 13 = .ok (.i2l, 1) := by decide +kernel
theorem dX9_bears_14 : decode cX9_bears 14 = .ok (.iload_n 1, 1) := by decide +kernel
theorem dX9_bears_15 : decode cX9_bears 15 = .ok (.i2l, 1) := by decide +kernel
theorem dX9_bears_16 : decode cX9_bears 16 = .ok (.ldc2_w 260, 3) := by decide +kernel
theorem dX9_bears_19 : decode cX9_bears 19 = .ok (.invokestatic 154, 3) := by decide +kernel
theorem dX9_bears_22 : decode cX9_bears 22 = .ok (.ifCond .ne 6, 3) := by decide +kernel
theorem dX9_bears_25 : decode cX9_bears 25 = .ok (.bipush (-3), 2) := by decide +kernel
theorem dX9_bears_27 : decode cX9_bears 27 = .ok (.ireturn, 1) := by decide +kernel
theorem dX9_bears_28 : decode cX9_bears 28 = .ok (.aload_n 0, 1) := by decide +kernel
theorem dX9_bears_29 : decode cX9_bears 29 = .ok (.invokevirtual 319, 3) := by decide +kernel
theorem dX9_bears_32 : decode cX9_bears 32 = .ok (.iconst 0, 1) := by decide +kernel
theorem dX9_bears_33 : decode cX9_bears 33 = .ok (.istore_n 3, 1) := by decide +kernel
theorem dX9_bears_34 : decode cX9_bears 34 = .ok (.iconst 0, 1) := by decide +kernel
theorem dX9_bears_35 : decode cX9_bears 35 = .ok (.istore 4, 2) := by decide +kernel
theorem dX9_bears_37 : decode cX9_bears 37 = .ok (.iload 4, 2) := by decide +kernel
theorem dX9_bears_39 : decode cX9_bears 39 = .ok (.bipush 32, 2) := by decide +kernel
theorem dX9_bears_41 : decode cX9_bears 41 = .ok (.if_icmp .ge 88, 3) := by decide +kernel
theorem dX9_bears_44 : decode cX9_bears 44 = .ok (.iconst 0, 1) := by decide +kernel
theorem dX9_bears_45 : decode cX9_bears 45 = .ok (.istore 5, 2) := by decide +kernel
theorem dX9_bears_47 : decode cX9_bears 47 = .ok (.iconst 0, 1) := by decide +kernel
theorem dX9_bears_48 : decode cX9_bears 48 = .ok (.istore 6, 2) := by decide +kernel
theorem dX9_bears_50 : decode cX9_bears 50 = .ok (.iload 6, 2) := by decide +kernel
theorem dX9_bears_52 : decode cX9_bears 52 = .ok (.aload_n 0, 1) := by decide +kernel
theorem dX9_bears_53 : decode cX9_bears 53 = .ok (.getfield 46, 3) := by decide +kernel
theorem dX9_bears_56 : decode cX9_bears 56 = .ok (.if_icmp .ge 54, 3) := by decide +kernel
theorem dX9_bears_59 : decode cX9_bears 59 = .ok (.iload 5, 2) := by decide +kernel
theorem dX9_bears_61 : decode cX9_bears 61 = .ok (.aload_n 0, 1) := by decide +kernel
theorem dX9_bears_62 : decode cX9_bears 62 = .ok (.getfield 116, 3) := by decide +kernel
theorem dX9_bears_65 : decode cX9_bears 65 = .ok (.bipush 6, 2) := by decide +kernel
theorem dX9_bears_67 : decode cX9_bears 67 = .ok (.iload 4, 2) := by decide +kernel
theorem dX9_bears_69 : decode cX9_bears 69 = .ok (.imul, 1) := by decide +kernel
theorem dX9_bears_70 : decode cX9_bears 70 = .ok (.iload 6, 2) := by decide +kernel
theorem dX9_bears_72 : decode cX9_bears 72 = .ok (.iadd, 1) := by decide +kernel
theorem dX9_bears_73 : decode cX9_bears 73 = .ok (.iaload, 1) := by decide +kernel
theorem dX9_bears_74 : decode cX9_bears 74 = .ok (.i2l, 1) := by decide +kernel
theorem dX9_bears_75 : decode cX9_bears 75 = .ok (.iload_n 1, 1) := by decide +kernel
theorem dX9_bears_76 : decode cX9_bears 76 = .ok (.i2l, 1) := by decide +kernel
theorem dX9_bears_77 : decode cX9_bears 77 = .ok (.iload_n 2, 1) := by decide +kernel
theorem dX9_bears_78 : decode cX9_bears 78 = .ok (.i2l, 1) := by decide +kernel
theorem dX9_bears_79 : decode cX9_bears 79 = .ok (.invokestatic 154, 3) := by decide +kernel
theorem dX9_bears_82 : decode cX9_bears 82 = .ok (.ifCond .eq 18, 3) := by decide +kernel
theorem dX9_bears_85 : decode cX9_bears 85 = .ok (.aload_n 0, 1) := by decide +kernel
theorem dX9_bears_86 : decode cX9_bears 86 = .ok (.getfield 7, 3) := by decide +kernel
theorem dX9_bears_89 : decode cX9_bears 89 = .ok (.aload_n 0, 1) := by decide +kernel
theorem dX9_bears_90 : decode cX9_bears 90 = .ok (.getfield 50, 3) := by decide +kernel
theorem dX9_bears_93 : decode cX9_bears 93 = .ok (.iload 6, 2) := by decide +kernel
theorem dX9_bears_95 : decode cX9_bears 95 = .ok (.iaload, 1) := by decide +kernel
theorem dX9_bears_96 : decode cX9_bears 96 = .ok (.iaload, 1) := by decide +kernel
theorem dX9_bears_97 : decode cX9_bears 97 = .ok (.goto 4, 3) := by decide +kernel
theorem dX9_bears_100 : decode cX9_bears 100 = .ok (.iconst 0, 1) := by decide +kernel
theorem dX9_bears_101 : decode cX9_bears 101 = .ok (.iadd, 1) := by decide +kernel
theorem dX9_bears_102 : decode cX9_bears 102 = .ok (.istore 5, 2) := by decide +kernel
theorem dX9_bears_104 : decode cX9_bears 104 = .ok (.iinc 6 1, 3) := by decide +kernel
theorem dX9_bears_107 : decode cX9_bears 107 = .ok (.goto (-57), 3) := by decide +kernel
theorem dX9_bears_110 : decode cX9_bears 110 = .ok (.iload 5, 2) := by decide +kernel
theorem dX9_bears_112 : decode cX9_bears 112 = .ok (.iload_n 3, 1) := by decide +kernel
theorem dX9_bears_113 : decode cX9_bears 113 = .ok (.if_icmp .le 8, 3) := by decide +kernel
theorem dX9_bears_116 : decode cX9_bears 116 = .ok (.iload 5, 2) := by decide +kernel
theorem dX9_bears_118 : decode cX9_bears 118 = .ok (.goto 4, 3) := by decide +kernel
theorem dX9_bears_121 : decode cX9_bears 121 = .ok (.iload_n 3, 1) := by decide +kernel
theorem dX9_bears_122 : decode cX9_bears 122 = .ok (.istore_n 3, 1) := by decide +kernel
theorem dX9_bears_123 : decode cX9_bears 123 = .ok (.iinc 4 1, 3) := by decide +kernel
theorem dX9_bears_126 : decode cX9_bears 126 = .ok (.goto (-89), 3) := by decide +kernel
theorem dX9_bears_129 : decode cX9_bears 129 = .ok (.iload_n 3, 1) := by decide +kernel
theorem dX9_bears_130 : decode cX9_bears 130 = .ok (.ireturn, 1) := by decide +kernel
theorem dX9_journey_0 : decode cX9_journey 0 = .ok (.iload_n 1, 1) := by decide +kernel
theorem dX9_journey_1 : decode cX9_journey 1 = .ok (.i2l, 1) := by decide +kernel
theorem dX9_journey_2 : decode cX9_journey 2 = .ok (.lconst 0, 1) := by decide +kernel
theorem dX9_journey_3 : decode cX9_journey 3 = .ok (.ldc2_w 166, 3) := by decide +kernel
theorem dX9_journey_6 : decode cX9_journey 6 = .ok (.invokestatic 154, 3) := by decide +kernel
theorem dX9_journey_9 : decode cX9_journey 9 = .ok (.ifCond .eq 26, 3) := by decide +kernel
theorem dX9_journey_12 : decode cX9_journey 12 = .ok (.iload_n 2, 1) := by decide +kernel
theorem dX9_journey_13 : decode cX9_journey 13 = .ok (.i2l, 1) := by decide +kernel
theorem dX9_journey_14 : decode cX9_journey 14 = .ok (.iload_n 1, 1) := by decide +kernel
theorem dX9_journey_15 : decode cX9_journey 15 = .ok (.iconst 1, 1) := by decide +kernel
theorem dX9_journey_16 : decode cX9_journey 16 = .ok (.iadd, 1) := by decide +kernel
theorem dX9_journey_17 : decode cX9_journey 17 = .ok (.i2l, 1) := by decide +kernel
theorem dX9_journey_18 : decode cX9_journey 18 = .ok (.ldc2_w 166, 3) := by decide +kernel
theorem dX9_journey_21 : decode cX9_journey 21 = .ok (.invokestatic 154, 3) := by decide +kernel
theorem dX9_journey_24 : decode cX9_journey 24 = .ok (.ifCond .eq 11, 3) := by decide +kernel
theorem dX9_journey_27 : decode cX9_journey 27 = .ok (.iload 5, 2) := by decide +kernel
theorem dX9_journey_29 : decode cX9_journey 29 = .ok (.invokestatic 160, 3) := by decide +kernel
theorem dX9_journey_32 : decode cX9_journey 32 = .ok (.ifCond .ne 6, 3) := by decide +kernel
theorem dX9_journey_35 : decode cX9_journey 35 = .ok (.bipush (-2), 2) := by decide +kernel
theorem dX9_journey_37 : decode cX9_journey 37 = .ok (.ireturn, 1) := by decide +kernel
theorem dX9_journey_38 : decode cX9_journey 38 = .ok (.iload_n 3, 1) := by decide +kernel
theorem dX9_journey_39 : decode cX9_journey 39 = .ok (.i2l, 1) := by decide +kernel
theorem dX9_journey_40 : decode cX9_journey 40 = .ok (.lconst 0, 1) := by decide +kernel
theorem dX9_journey_41 : decode cX9_journey 41 = .ok (.ldc2_w 338, 3) := by decide +kernel
theorem dX9_journey_44 : decode cX9_journey 44 = .ok (.invokestatic 154, 3) := by decide +kernel
theorem dX9_journey_47 : decode cX9_journey 47 = .ok (.ifCond .eq 25, 3) := by decide +kernel
theorem dX9_journey_50 : decode cX9_journey 50 = .ok (.iload 4, 2) := by decide +kernel
theorem dX9_journey_52 : decode cX9_journey 52 = .ok (.i2l, 1) := by decide +kernel
theorem dX9_journey_53 : decode cX9_journey 53 = .ok (.iload_n 3, 1) := by decide +kernel
theorem dX9_journey_54 : decode cX9_journey 54 = .ok (.i2l, 1) := by decide +kernel
theorem dX9_journey_55 : decode cX9_journey 55 = .ok (.ldc2_w 338, 3) := by decide +kernel
theorem dX9_journey_58 : decode cX9_journey 58 = .ok (.invokestatic 154, 3) := by decide +kernel
theorem dX9_journey_61 : decode cX9_journey 61 = .ok (.ifCond .eq 11, 3) := by decide +kernel
theorem dX9_journey_64 : decode cX9_journey 64 = .ok (.iload 4, 2) := by decide +kernel
theorem dX9_journey_66 : decode cX9_journey 66 = .ok (.iload_n 3, 1) := by decide +kernel
theorem dX9_journey_67 : decode cX9_journey 67 = .ok (.isub, 1) := by decide +kernel
theorem dX9_journey_68 : decode cX9_journey 68 = .ok (.iconst 5, 1) := by decide +kernel
theorem dX9_journey_69 : decode cX9_journey 69 = .ok (.if_icmp .le 6, 3) := by decide +kernel
theorem dX9_journey_72 : decode cX9_journey 72 = .ok (.bipush (-3), 2) := by decide +kernel
theorem dX9_journey_74 : decode cX9_journey 74 = .ok (.ireturn, 1) := by decide +kernel
theorem dX9_journey_75 : decode cX9_journey 75 = .ok (.aload_n 0, 1) := by decide +kernel
theorem dX9_journey_76 : decode cX9_journey 76 = .ok (.getfield 340, 3) := by decide +kernel
theorem dX9_journey_79 : decode cX9_journey 79 = .ok (.iconst 5, 1) := by decide +kernel
theorem dX9_journey_80 : decode cX9_journey 80 = .ok (.if_icmp .ne 6, 3) := by decide +kernel
theorem dX9_journey_83 : decode cX9_journey 83 = .ok (.bipush (-5), 2) := by decide +kernel
theorem dX9_journey_85 : decode cX9_journey 85 = .ok (.ireturn, 1) := by decide +kernel
theorem dX9_journey_86 : decode cX9_journey 86 = .ok (.aload_n 0, 1) := by decide +kernel
theorem dX9_journey_87 : decode cX9_journey 87 = .ok (.getfield 74, 3) := by decide +kernel
theorem dX9_journey_90 : decode cX9_journey 90 = .ok (.aload_n 0, 1) := by decide +kernel
theorem dX9_journey_91 : decode cX9_journey 91 = .ok (.getfield 340, 3) := by decide +kernel
theorem dX9_journey_94 : decode cX9_journey 94 = .ok (.iload_n 1, 1) := by decide +kernel
theorem dX9_journey_95 : decode cX9_journey 95 = .ok (.iastore, 1) := by decide +kernel
theorem dX9_journey_96 : decode cX9_journey 96 = .ok (.aload_n 0, 1) := by decide +kernel
theorem dX9_journey_97 : decode cX9_journey 97 = .ok (.getfield 77, 3) := by decide +kernel
theorem dX9_journey_100 : decode cX9_journey 100 = .ok (.aload_n 0, 1) := by decide +kernel
theorem dX9_journey_101 : decode cX9_journey 101 = .ok (.getfield 340, 3) := by decide +kernel
theorem dX9_journey_104 : decode cX9_journey 104 = .ok (.iload_n 2, 1) := by decide +kernel
theorem dX9_journey_105 : decode cX9_journey 105 = .ok (.iastore, 1) := by decide +kernel
theorem dX9_journey_106 : decode cX9_journey 106 = .ok (.aload_n 0, 1) := by decide +kernel
theorem dX9_journey_107 : decode cX9_journey 107 = .ok (.getfield 80, 3) := by decide +kernel
theorem dX9_journey_110 : decode cX9_journey 110 = .ok (.aload_n 0, 1) := by decide +kernel
theorem dX9_journey_111 : decode cX9_journey 111 = .ok (.getfield 340, 3) := by decide +kernel
theorem dX9_journey_114 : decode cX9_journey 114 = .ok (.iload_n 3, 1) := by decide +kernel
theorem dX9_journey_115 : decode cX9_journey 115 = .ok (.iastore, 1) := by decide +kernel
theorem dX9_journey_116 : decode cX9_journey 116 = .ok (.aload_n 0, 1) := by decide +kernel
theorem dX9_journey_117 : decode cX9_journey 117 = .ok (.getfield 83, 3) := by decide +kernel
theorem dX9_journey_120 : decode cX9_journey 120 = .ok (.aload_n 0, 1) := by decide +kernel
theorem dX9_journey_121 : decode cX9_journey 121 = .ok (.getfield 340, 3) := by decide +kernel
theorem dX9_journey_124 : decode cX9_journey 124 = .ok (.iload 4, 2) := by decide +kernel
theorem dX9_journey_126 : decode cX9_journey 126 = .ok (.iastore, 1) := by decide +kernel
theorem dX9_journey_127 : decode cX9_journey 127 = .ok (.aload_n 0, 1) := by decide +kernel
theorem dX9_journey_128 : decode cX9_journey 128 = .ok (.getfield 86, 3) := by decide +kernel
theorem dX9_journey_131 : decode cX9_journey 131 = .ok (.aload_n 0, 1) := by decide +kernel
theorem dX9_journey_132 : decode cX9_journey 132 = .ok (.getfield 340, 3) := by decide +kernel
theorem dX9_journey_135 : decode cX9_journey 135 = .ok (.iload 5, 2) := by decide +kernel
theorem dX9_journey_137 : decode cX9_journey 137 = .ok (.iastore, 1) := by decide +kernel
theorem dX9_journey_138 : decode cX9_journey 138 = .ok (.aload_n 0, 1) := by decide +kernel
theorem dX9_journey_139 : decode cX9_journey 139 = .ok (.dup, 1) := by decide +kernel
theorem dX9_journey_140 : decode cX9_journey 140 = .ok (.getfield 340, 3) := by decide +kernel
theorem dX9_journey_143 : decode cX9_journey 143 = .ok (.iconst 1, 1) := by decide +kernel
theorem dX9_journey_144 : decode cX9_journey 144 = .ok (.iadd, 1) := by decide +kernel
theorem dX9_journey_145 : decode cX9_journey 145 = .ok (.putfield 340, 3) := by decide +kernel
theorem dX9_journey_148 : decode cX9_journey 148 = .ok (.aload_n 0, 1) := by decide +kernel
theorem dX9_journey_149 : decode cX9_journey 149 = .ok (.getfield 340, 3) := by decide +kernel
theorem dX9_journey_152 : decode cX9_journey 152 = .ok (.iconst 1, 1) := by decide +kernel
theorem dX9_journey_153 : decode cX9_journey 153 = .ok (.isub, 1) := by decide +kernel
theorem dX9_journey_154 : decode cX9_journey 154 = .ok (.ireturn, 1) := by decide +kernel
theorem dX9_clear_0 : decode cX9_clear 0 = .ok (.aload_n 0, 1) := by decide +kernel
theorem dX9_clear_1 : decode cX9_clear 1 = .ok (.getfield 340, 3) := by decide +kernel
theorem dX9_clear_4 : decode cX9_clear 4 = .ok (.istore_n 1, 1) := by decide +kernel
theorem dX9_clear_5 : decode cX9_clear 5 = .ok (.aload_n 0, 1) := by decide +kernel
theorem dX9_clear_6 : decode cX9_clear 6 = .ok (.iconst 0, 1) := by decide +kernel
theorem dX9_clear_7 : decode cX9_clear 7 = .ok (.putfield 340, 3) := by decide +kernel
theorem dX9_clear_10 : decode cX9_clear 10 = .ok (.iload_n 1, 1) := by decide +kernel
theorem dX9_clear_11 : decode cX9_clear 11 = .ok (.ireturn, 1) := by decide +kernel
theorem dX9_goes_0 : decode cX9_goes 0 = .ok (.iload_n 2, 1) := by decide +kernel
theorem dX9_goes_1 : decode cX9_goes 1 = .ok (.i2l, 1) := by decide +kernel
theorem dX9_goes_2 : decode cX9_goes 2 = .ok (.aload_n 0, 1) := by decide +kernel
theorem dX9_goes_3 : decode cX9_goes 3 = .ok (.getfield 74, 3) := by decide +kernel
theorem dX9_goes_6 : decode cX9_goes 6 = .ok (.iload_n 1, 1) := by decide +kernel
theorem dX9_goes_7 : decode cX9_goes 7 = .ok (.iaload, 1) := by decide +kernel
theorem dX9_goes_8 : decode cX9_goes 8 = .ok (.i2l, 1) := by decide +kernel
theorem dX9_goes_9 : decode cX9_goes 9 = .ok (.aload_n 0, 1) := by decide +kernel
theorem dX9_goes_10 : decode cX9_goes 10 = .ok (.getfield 77, 3) := by decide +kernel
theorem dX9_goes_13 : decode cX9_goes 13 = .ok (.iload_n 1, 1) := by decide +kernel
theorem dX9_goes_14 : decode cX9_goes 14 = .ok (.iaload, 1) := by decide +kernel
theorem dX9_goes_15 : decode cX9_goes 15 = .ok (.iconst 1, 1) := by decide +kernel
theorem dX9_goes_16 : decode cX9_goes 16 = .ok (.isub, 1) := by decide +kernel
theorem dX9_goes_17 : decode cX9_goes 17 = .ok (.i2l, 1) := by decide +kernel
theorem dX9_goes_18 : decode cX9_goes 18 = .ok (.invokestatic 154, 3) := by decide +kernel
theorem dX9_goes_21 : decode cX9_goes 21 = .ok (.ifCond .eq 26, 3) := by decide +kernel
theorem dX9_goes_24 : decode cX9_goes 24 = .ok (.aload_n 0, 1) := by decide +kernel
theorem dX9_goes_25 : decode cX9_goes 25 = .ok (.getfield 140, 3) := by decide +kernel
theorem dX9_goes_28 : decode cX9_goes 28 = .ok (.iload_n 1, 1) := by decide +kernel
theorem dX9_goes_29 : decode cX9_goes 29 = .ok (.iaload, 1) := by decide +kernel
theorem dX9_goes_30 : decode cX9_goes 30 = .ok (.iload_n 2, 1) := by decide +kernel
theorem dX9_goes_31 : decode cX9_goes 31 = .ok (.iadd, 1) := by decide +kernel
theorem dX9_goes_32 : decode cX9_goes 32 = .ok (.aload_n 0, 1) := by decide +kernel
theorem dX9_goes_33 : decode cX9_goes 33 = .ok (.getfield 74, 3) := by decide +kernel
theorem dX9_goes_36 : decode cX9_goes 36 = .ok (.iload_n 1, 1) := by decide +kernel
theorem dX9_goes_37 : decode cX9_goes 37 = .ok (.iaload, 1) := by decide +kernel
theorem dX9_goes_38 : decode cX9_goes 38 = .ok (.isub, 1) := by decide +kernel
theorem dX9_goes_39 : decode cX9_goes 39 = .ok (.iload_n 3, 1) := by decide +kernel
theorem dX9_goes_40 : decode cX9_goes 40 = .ok (.if_icmp .ne 7, 3) := by decide +kernel
theorem dX9_goes_43 : decode cX9_goes 43 = .ok (.iconst 1, 1) := by decide +kernel
theorem dX9_goes_44 : decode cX9_goes 44 = .ok (.goto 4, 3) := by decide +kernel
theorem dX9_goes_47 : decode cX9_goes 47 = .ok (.iconst 0, 1) := by decide +kernel
theorem dX9_goes_48 : decode cX9_goes 48 = .ok (.ireturn, 1) := by decide +kernel
theorem dX9_leads_0 : decode cX9_leads 0 = .ok (.iconst 1, 1) := by decide +kernel
theorem dX9_leads_1 : decode cX9_leads 1 = .ok (.istore 4, 2) := by decide +kernel
theorem dX9_leads_3 : decode cX9_leads 3 = .ok (.iconst 0, 1) := by decide +kernel
theorem dX9_leads_4 : decode cX9_leads 4 = .ok (.istore 5, 2) := by decide +kernel
theorem dX9_leads_6 : decode cX9_leads 6 = .ok (.iload 5, 2) := by decide +kernel
theorem dX9_leads_8 : decode cX9_leads 8 = .ok (.aload_n 0, 1) := by decide +kernel
theorem dX9_leads_9 : decode cX9_leads 9 = .ok (.getfield 340, 3) := by decide +kernel
theorem dX9_leads_12 : decode cX9_leads 12 = .ok (.if_icmp .ge 80, 3) := by decide +kernel
theorem dX9_leads_15 : decode cX9_leads 15 = .ok (.aload_n 0, 1) := by decide +kernel
theorem dX9_leads_16 : decode cX9_leads 16 = .ok (.getfield 7, 3) := by decide +kernel
theorem dX9_leads_19 : decode cX9_leads 19 = .ok (.aload_n 0, 1) := by decide +kernel
theorem dX9_leads_20 : decode cX9_leads 20 = .ok (.getfield 86, 3) := by decide +kernel
theorem dX9_leads_23 : decode cX9_leads 23 = .ok (.iload 5, 2) := by decide +kernel
theorem dX9_leads_25 : decode cX9_leads 25 = .ok (.iaload, 1) := by decide +kernel
theorem dX9_leads_26 : decode cX9_leads 26 = .ok (.iaload, 1) := by decide +kernel
theorem dX9_leads_27 : decode cX9_leads 27 = .ok (.aload_n 0, 1) := by decide +kernel
theorem dX9_leads_28 : decode cX9_leads 28 = .ok (.getfield 7, 3) := by decide +kernel
theorem dX9_leads_31 : decode cX9_leads 31 = .ok (.aload_n 0, 1) := by decide +kernel
theorem dX9_leads_32 : decode cX9_leads 32 = .ok (.getfield 86, 3) := by decide +kernel
theorem dX9_leads_35 : decode cX9_leads 35 = .ok (.iload_n 1, 1) := by decide +kernel
theorem dX9_leads_36 : decode cX9_leads 36 = .ok (.iaload, 1) := by decide +kernel
theorem dX9_leads_37 : decode cX9_leads 37 = .ok (.iaload, 1) := by decide +kernel
theorem dX9_leads_38 : decode cX9_leads 38 = .ok (.isub, 1) := by decide +kernel
theorem dX9_leads_39 : decode cX9_leads 39 = .ok (.istore 6, 2) := by decide +kernel
theorem dX9_leads_41 : decode cX9_leads 41 = .ok (.iload 4, 2) := by decide +kernel
theorem dX9_leads_43 : decode cX9_leads 43 = .ok (.ifCond .eq 40, 3) := by decide +kernel
theorem dX9_leads_46 : decode cX9_leads 46 = .ok (.iload 5, 2) := by decide +kernel
theorem dX9_leads_48 : decode cX9_leads 48 = .ok (.iload_n 1, 1) := by decide +kernel
theorem dX9_leads_49 : decode cX9_leads 49 = .ok (.if_icmp .eq 30, 3) := by decide +kernel
theorem dX9_leads_52 : decode cX9_leads 52 = .ok (.aload_n 0, 1) := by decide +kernel
theorem dX9_leads_53 : decode cX9_leads 53 = .ok (.iload 5, 2) := by decide +kernel
theorem dX9_leads_55 : decode cX9_leads 55 = .ok (.iload_n 2, 1) := by decide +kernel
theorem dX9_leads_56 : decode cX9_leads 56 = .ok (.iload_n 3, 1) := by decide +kernel
theorem dX9_leads_57 : decode cX9_leads 57 = .ok (.invokevirtual 343, 3) := by decide +kernel
theorem dX9_leads_60 : decode cX9_leads 60 = .ok (.ifCond .eq 19, 3) := by decide +kernel
theorem dX9_leads_63 : decode cX9_leads 63 = .ok (.iload 6, 2) := by decide +kernel
theorem dX9_leads_65 : decode cX9_leads 65 = .ok (.ifCond .gt 18, 3) := by decide +kernel
theorem dX9_leads_68 : decode cX9_leads 68 = .ok (.iload 6, 2) := by decide +kernel
theorem dX9_leads_70 : decode cX9_leads 70 = .ok (.ifCond .ne 9, 3) := by decide +kernel
theorem dX9_leads_73 : decode cX9_leads 73 = .ok (.iload 5, 2) := by decide +kernel
theorem dX9_leads_75 : decode cX9_leads 75 = .ok (.iload_n 1, 1) := by decide +kernel
theorem dX9_leads_76 : decode cX9_leads 76 = .ok (.if_icmp .lt 7, 3) := by decide +kernel
theorem dX9_leads_79 : decode cX9_leads 79 = .ok (.iconst 1, 1) := by decide +kernel
theorem dX9_leads_80 : decode cX9_leads 80 = .ok (.goto 4, 3) := by decide +kernel
theorem dX9_leads_83 : decode cX9_leads 83 = .ok (.iconst 0, 1) := by decide +kernel
theorem dX9_leads_84 : decode cX9_leads 84 = .ok (.istore 4, 2) := by decide +kernel
theorem dX9_leads_86 : decode cX9_leads 86 = .ok (.iinc 5 1, 3) := by decide +kernel
theorem dX9_leads_89 : decode cX9_leads 89 = .ok (.goto (-83), 3) := by decide +kernel
theorem dX9_leads_92 : decode cX9_leads 92 = .ok (.iload 4, 2) := by decide +kernel
theorem dX9_leads_94 : decode cX9_leads 94 = .ok (.ireturn, 1) := by decide +kernel
theorem dX9_burnt_0 : decode cX9_burnt 0 = .ok (.iconst 0, 1) := by decide +kernel
theorem dX9_burnt_1 : decode cX9_burnt 1 = .ok (.istore_n 1, 1) := by decide +kernel
theorem dX9_burnt_2 : decode cX9_burnt 2 = .ok (.iconst 0, 1) := by decide +kernel
theorem dX9_burnt_3 : decode cX9_burnt 3 = .ok (.istore_n 2, 1) := by decide +kernel
theorem dX9_burnt_4 : decode cX9_burnt 4 = .ok (.iload_n 2, 1) := by decide +kernel
theorem dX9_burnt_5 : decode cX9_burnt 5 = .ok (.aload_n 0, 1) := by decide +kernel
theorem dX9_burnt_6 : decode cX9_burnt 6 = .ok (.getfield 340, 3) := by decide +kernel
theorem dX9_burnt_9 : decode cX9_burnt 9 = .ok (.if_icmp .ge 128, 3) := by decide +kernel
theorem dX9_burnt_12 : decode cX9_burnt 12 = .ok (.aload_n 0, 1) := by decide +kernel
theorem dX9_burnt_13 : decode cX9_burnt 13 = .ok (.getfield 7, 3) := by decide +kernel
theorem dX9_burnt_16 : decode cX9_burnt 16 = .ok (.aload_n 0, 1) := by decide +kernel
theorem dX9_burnt_17 : decode cX9_burnt 17 = .ok (.getfield 86, 3) := by decide +kernel
theorem dX9_burnt_20 : decode cX9_burnt 20 = .ok (.iload_n 2, 1) := by decide +kernel
theorem dX9_burnt_21 : decode cX9_burnt 21 = .ok (.iaload, 1) := by decide +kernel
theorem dX9_burnt_22 : decode cX9_burnt 22 = .ok (.iaload, 1) := by decide +kernel
theorem dX9_burnt_23 : decode cX9_burnt 23 = .ok (.istore_n 3, 1) := by decide +kernel
theorem dX9_burnt_24 : decode cX9_burnt 24 = .ok (.iload_n 3, 1) := by decide +kernel
theorem dX9_burnt_25 : decode cX9_burnt 25 = .ok (.aload_n 0, 1) := by decide +kernel
theorem dX9_burnt_26 : decode cX9_burnt 26 = .ok (.getfield 53, 3) := by decide +kernel
theorem dX9_burnt_29 : decode cX9_burnt 29 = .ok (.iconst 3, 1) := by decide +kernel
theorem dX9_burnt_30 : decode cX9_burnt 30 = .ok (.iaload, 1) := by decide +kernel
theorem dX9_burnt_31 : decode cX9_burnt 31 = .ok (.isub, 1) := by decide +kernel
theorem dX9_burnt_32 : decode cX9_burnt 32 = .ok (.istore 4, 2) := by decide +kernel
theorem dX9_burnt_34 : decode cX9_burnt 34 = .ok (.iload 4, 2) := by decide +kernel
theorem dX9_burnt_36 : decode cX9_burnt 36 = .ok (.iconst 1, 1) := by decide +kernel
theorem dX9_burnt_37 : decode cX9_burnt 37 = .ok (.if_icmp .ge 7, 3) := by decide +kernel
theorem dX9_burnt_40 : decode cX9_burnt 40 = .ok (.iconst 1, 1) := by decide +kernel
theorem dX9_burnt_41 : decode cX9_burnt 41 = .ok (.goto 5, 3) := by decide +kernel
theorem dX9_burnt_44 : decode cX9_burnt 44 = .ok (.iload 4, 2) := by decide +kernel
theorem dX9_burnt_46 : decode cX9_burnt 46 = .ok (.istore 4, 2) := by decide +kernel
theorem dX9_burnt_48 : decode cX9_burnt 48 = .ok (.aload_n 0, 1) := by decide +kernel
theorem dX9_burnt_49 : decode cX9_burnt 49 = .ok (.getfield 74, 3) := by decide +kernel
theorem dX9_burnt_52 : decode cX9_burnt 52 = .ok (.iload_n 2, 1) := by decide +kernel
theorem dX9_burnt_53 : decode cX9_burnt 53 = .ok (.iaload, 1) := by decide +kernel
theorem dX9_burnt_54 : decode cX9_burnt 54 = .ok (.istore 5, 2) := by decide +kernel
theorem dX9_burnt_56 : decode cX9_burnt 56 = .ok (.iload 5, 2) := by decide +kernel
theorem dX9_burnt_58 : decode cX9_burnt 58 = .ok (.aload_n 0, 1) := by decide +kernel
theorem dX9_burnt_59 : decode cX9_burnt 59 = .ok (.getfield 77, 3) := by decide +kernel
theorem dX9_burnt_62 : decode cX9_burnt 62 = .ok (.iload_n 2, 1) := by decide +kernel
theorem dX9_burnt_63 : decode cX9_burnt 63 = .ok (.iaload, 1) := by decide +kernel
theorem dX9_burnt_64 : decode cX9_burnt 64 = .ok (.if_icmp .ge 44, 3) := by decide +kernel
theorem dX9_burnt_67 : decode cX9_burnt 67 = .ok (.iload_n 1, 1) := by decide +kernel
theorem dX9_burnt_68 : decode cX9_burnt 68 = .ok (.aload_n 0, 1) := by decide +kernel
theorem dX9_burnt_69 : decode cX9_burnt 69 = .ok (.iload_n 2, 1) := by decide +kernel
theorem dX9_burnt_70 : decode cX9_burnt 70 = .ok (.iload 5, 2) := by decide +kernel
theorem dX9_burnt_72 : decode cX9_burnt 72 = .ok (.aload_n 0, 1) := by decide +kernel
theorem dX9_burnt_73 : decode cX9_burnt 73 = .ok (.getfield 140, 3) := by decide +kernel
theorem dX9_burnt_76 : decode cX9_burnt 76 = .ok (.iload_n 2, 1) := by decide +kernel
theorem dX9_burnt_77 : decode cX9_burnt 77 = .ok (.iaload, 1) := by decide +kernel
theorem dX9_burnt_78 : decode cX9_burnt 78 = .ok (.iload 5, 2) := by decide +kernel
theorem dX9_burnt_80 : decode cX9_burnt 80 = .ok (.iadd, 1) := by decide +kernel
theorem dX9_burnt_81 : decode cX9_burnt 81 = .ok (.aload_n 0, 1) := by decide +kernel
theorem dX9_burnt_82 : decode cX9_burnt 82 = .ok (.getfield 74, 3) := by decide +kernel
theorem dX9_burnt_85 : decode cX9_burnt 85 = .ok (.iload_n 2, 1) := by decide +kernel
theorem dX9_burnt_86 : decode cX9_burnt 86 = .ok (.iaload, 1) := by decide +kernel
theorem dX9_burnt_87 : decode cX9_burnt 87 = .ok (.isub, 1) := by decide +kernel
theorem dX9_burnt_88 : decode cX9_burnt 88 = .ok (.invokevirtual 347, 3) := by decide +kernel
theorem dX9_burnt_91 : decode cX9_burnt 91 = .ok (.ifCond .eq 7, 3) := by decide +kernel
theorem dX9_burnt_94 : decode cX9_burnt 94 = .ok (.iload_n 3, 1) := by decide +kernel
theorem dX9_burnt_95 : decode cX9_burnt 95 = .ok (.goto 5, 3) := by decide +kernel
theorem dX9_burnt_98 : decode cX9_burnt 98 = .ok (.iload 4, 2) := by decide +kernel
theorem dX9_burnt_100 : decode cX9_burnt 100 = .ok (.iadd, 1) := by decide +kernel
theorem dX9_burnt_101 : decode cX9_burnt 101 = .ok (.istore_n 1, 1) := by decide +kernel
theorem dX9_burnt_102 : decode cX9_burnt 102 = .ok (.iinc 5 1, 3) := by decide +kernel
theorem dX9_burnt_105 : decode cX9_burnt 105 = .ok (.goto (-49), 3) := by decide +kernel
theorem dX9_burnt_108 : decode cX9_burnt 108 = .ok (.iload_n 1, 1) := by decide +kernel
theorem dX9_burnt_109 : decode cX9_burnt 109 = .ok (.aload_n 0, 1) := by decide +kernel
theorem dX9_burnt_110 : decode cX9_burnt 110 = .ok (.getfield 53, 3) := by decide +kernel
theorem dX9_burnt_113 : decode cX9_burnt 113 = .ok (.iconst 4, 1) := by decide +kernel
theorem dX9_burnt_114 : decode cX9_burnt 114 = .ok (.iaload, 1) := by decide +kernel
theorem dX9_burnt_115 : decode cX9_burnt 115 = .ok (.aload_n 0, 1) := by decide +kernel
theorem dX9_burnt_116 : decode cX9_burnt 116 = .ok (.getfield 140, 3) := by decide +kernel
theorem dX9_burnt_119 : decode cX9_burnt 119 = .ok (.iload_n 2, 1) := by decide +kernel
theorem dX9_burnt_120 : decode cX9_burnt 120 = .ok (.iaload, 1) := by decide +kernel
theorem dX9_burnt_121 : decode cX9_burnt 121 = .ok (.aload_n 0, 1) := by decide +kernel
theorem dX9_burnt_122 : decode cX9_burnt 122 = .ok (.getfield 80, 3) := by decide +kernel
theorem dX9_burnt_125 : decode cX9_burnt 125 = .ok (.iload_n 2, 1) := by decide +kernel
theorem dX9_burnt_126 : decode cX9_burnt 126 = .ok (.iaload, 1) := by decide +kernel
theorem dX9_burnt_127 : decode cX9_burnt 127 = .ok (.isub, 1) := by decide +kernel
theorem dX9_burnt_128 : decode cX9_burnt 128 = .ok (.imul, 1) := by decide +kernel
theorem dX9_burnt_129 : decode cX9_burnt 129 = .ok (.iadd, 1) := by decide +kernel
theorem dX9_burnt_130 : decode cX9_burnt 130 = .ok (.istore_n 1, 1) := by decide +kernel
theorem dX9_burnt_131 : decode cX9_burnt 131 = .ok (.iinc 2 1, 3) := by decide +kernel
theorem dX9_burnt_134 : decode cX9_burnt 134 = .ok (.goto (-130), 3) := by decide +kernel
theorem dX9_burnt_137 : decode cX9_burnt 137 = .ok (.iload_n 1, 1) := by decide +kernel
theorem dX9_burnt_138 : decode cX9_burnt 138 = .ok (.ireturn, 1) := by decide +kernel
theorem dX9_best_0 : decode cX9_best 0 = .ok (.iload_n 1, 1) := by decide +kernel
theorem dX9_best_1 : decode cX9_best 1 = .ok (.iconst (-1), 1) := by decide +kernel
theorem dX9_best_2 : decode cX9_best 2 = .ok (.if_icmp .ge 6, 3) := by decide +kernel
theorem dX9_best_5 : decode cX9_best 5 = .ok (.bipush (-3), 2) := by decide +kernel
theorem dX9_best_7 : decode cX9_best 7 = .ok (.ireturn, 1) := by decide +kernel
theorem dX9_best_8 : decode cX9_best 8 = .ok (.iload_n 1, 1) := by decide +kernel
theorem dX9_best_9 : decode cX9_best 9 = .ok (.aload_n 0, 1) := by decide +kernel
theorem dX9_best_10 : decode cX9_best 10 = .ok (.getfield 340, 3) := by decide +kernel
theorem dX9_best_13 : decode cX9_best 13 = .ok (.if_icmp .lt 5, 3) := by decide +kernel
theorem dX9_best_16 : decode cX9_best 16 = .ok (.iconst (-1), 1) := by decide +kernel
theorem dX9_best_17 : decode cX9_best 17 = .ok (.ireturn, 1) := by decide +kernel
theorem dX9_best_18 : decode cX9_best 18 = .ok (.iconst 0, 1) := by decide +kernel
theorem dX9_best_19 : decode cX9_best 19 = .ok (.istore_n 2, 1) := by decide +kernel
theorem dX9_best_20 : decode cX9_best 20 = .ok (.iload_n 2, 1) := by decide +kernel
theorem dX9_best_21 : decode cX9_best 21 = .ok (.aload_n 0, 1) := by decide +kernel
theorem dX9_best_22 : decode cX9_best 22 = .ok (.getfield 340, 3) := by decide +kernel
theorem dX9_best_25 : decode cX9_best 25 = .ok (.if_icmp .ge 21, 3) := by decide +kernel
theorem dX9_best_28 : decode cX9_best 28 = .ok (.aload_n 0, 1) := by decide +kernel
theorem dX9_best_29 : decode cX9_best 29 = .ok (.getfield 140, 3) := by decide +kernel
theorem dX9_best_32 : decode cX9_best 32 = .ok (.iload_n 2, 1) := by decide +kernel
theorem dX9_best_33 : decode cX9_best 33 = .ok (.aload_n 0, 1) := by decide +kernel
theorem dX9_best_34 : decode cX9_best 34 = .ok (.getfield 80, 3) := by decide +kernel
theorem dX9_best_37 : decode cX9_best 37 = .ok (.iload_n 2, 1) := by decide +kernel
theorem dX9_best_38 : decode cX9_best 38 = .ok (.iaload, 1) := by decide +kernel
theorem dX9_best_39 : decode cX9_best 39 = .ok (.iastore, 1) := by decide +kernel
theorem dX9_best_40 : decode cX9_best 40 = .ok (.iinc 2 1, 3) := by decide +kernel
theorem dX9_best_43 : decode cX9_best 43 = .ok (.goto (-23), 3) := by decide +kernel
theorem dX9_best_46 : decode cX9_best 46 = .ok (.ldc_w 322, 3) := by decide +kernel
theorem dX9_best_49 : decode cX9_best 49 = .ok (.istore_n 2, 1) := by decide +kernel
theorem dX9_best_50 : decode cX9_best 50 = .ok (.iconst 1, 1) := by decide +kernel
theorem dX9_best_51 : decode cX9_best 51 = .ok (.istore_n 3, 1) := by decide +kernel
theorem dX9_best_52 : decode cX9_best 52 = .ok (.iload_n 3, 1) := by decide +kernel
theorem dX9_best_53 : decode cX9_best 53 = .ok (.ifCond .eq 141, 3) := by decide +kernel
theorem dX9_best_56 : decode cX9_best 56 = .ok (.aload_n 0, 1) := by decide +kernel
theorem dX9_best_57 : decode cX9_best 57 = .ok (.invokevirtual 350, 3) := by decide +kernel
theorem dX9_best_60 : decode cX9_best 60 = .ok (.istore 4, 2) := by decide +kernel
theorem dX9_best_62 : decode cX9_best 62 = .ok (.iload 4, 2) := by decide +kernel
theorem dX9_best_64 : decode cX9_best 64 = .ok (.iload_n 2, 1) := by decide +kernel
theorem dX9_best_65 : decode cX9_best 65 = .ok (.if_icmp .ge 38, 3) := by decide +kernel
theorem dX9_best_68 : decode cX9_best 68 = .ok (.iload 4, 2) := by decide +kernel
theorem dX9_best_70 : decode cX9_best 70 = .ok (.istore_n 2, 1) := by decide +kernel
theorem dX9_best_71 : decode cX9_best 71 = .ok (.iconst 0, 1) := by decide +kernel
theorem dX9_best_72 : decode cX9_best 72 = .ok (.istore 5, 2) := by decide +kernel
theorem dX9_best_74 : decode cX9_best 74 = .ok (.iload 5, 2) := by decide +kernel
theorem dX9_best_76 : decode cX9_best 76 = .ok (.aload_n 0, 1) := by decide +kernel
theorem dX9_best_77 : decode cX9_best 77 = .ok (.getfield 340, 3) := by decide +kernel
theorem dX9_best_80 : decode cX9_best 80 = .ok (.if_icmp .ge 23, 3) := by decide +kernel
theorem dX9_best_83 : decode cX9_best 83 = .ok (.aload_n 0, 1) := by decide +kernel
theorem dX9_best_84 : decode cX9_best 84 = .ok (.getfield 143, 3) := by decide +kernel
theorem dX9_best_87 : decode cX9_best 87 = .ok (.iload 5, 2) := by decide +kernel
theorem dX9_best_89 : decode cX9_best 89 = .ok (.aload_n 0, 1) := by decide +kernel
theorem dX9_best_90 : decode cX9_best 90 = .ok (.getfield 140, 3) := by decide +kernel
theorem dX9_best_93 : decode cX9_best 93 = .ok (.iload 5, 2) := by decide +kernel
theorem dX9_best_95 : decode cX9_best 95 = .ok (.iaload, 1) := by decide +kernel
theorem dX9_best_96 : decode cX9_best 96 = .ok (.iastore, 1) := by decide +kernel
theorem dX9_best_97 : decode cX9_best 97 = .ok (.iinc 5 1, 3) := by decide +kernel
theorem dX9_best_100 : decode cX9_best 100 = .ok (.goto (-26), 3) := by decide +kernel
theorem dX9_best_103 : decode cX9_best 103 = .ok (.aload_n 0, 1) := by decide +kernel
theorem dX9_best_104 : decode cX9_best 104 = .ok (.getfield 340, 3) := by decide +kernel
theorem dX9_best_107 : decode cX9_best 107 = .ok (.iconst 1, 1) := by decide +kernel
theorem dX9_best_108 : decode cX9_best 108 = .ok (.isub, 1) := by decide +kernel
theorem dX9_best_109 : decode cX9_best 109 = .ok (.istore 5, 2) := by decide +kernel
theorem dX9_best_111 : decode cX9_best 111 = .ok (.iload 5, 2) := by decide +kernel
theorem dX9_best_113 : decode cX9_best 113 = .ok (.ifCond .lt 40, 3) := by decide +kernel
theorem dX9_best_116 : decode cX9_best 116 = .ok (.aload_n 0, 1) := by decide +kernel
theorem dX9_best_117 : decode cX9_best 117 = .ok (.getfield 140, 3) := by decide +kernel
theorem dX9_best_120 : decode cX9_best 120 = .ok (.iload 5, 2) := by decide +kernel
theorem dX9_best_122 : decode cX9_best 122 = .ok (.iaload, 1) := by decide +kernel
theorem dX9_best_123 : decode cX9_best 123 = .ok (.aload_n 0, 1) := by decide +kernel
theorem dX9_best_124 : decode cX9_best 124 = .ok (.getfield 83, 3) := by decide +kernel
theorem dX9_best_127 : decode cX9_best 127 = .ok (.iload 5, 2) := by decide +kernel
theorem dX9_best_129 : decode cX9_best 129 = .ok (.iaload, 1) := by decide +kernel
theorem dX9_best_130 : decode cX9_best 130 = .ok (.if_icmp .ne 23, 3) := by decide +kernel
theorem dX9_best_133 : decode cX9_best 133 = .ok (.aload_n 0, 1) := by decide +kernel
theorem dX9_best_134 : decode cX9_best 134 = .ok (.getfield 140, 3) := by decide +kernel
theorem dX9_best_137 : decode cX9_best 137 = .ok (.iload 5, 2) := by decide +kernel
theorem dX9_best_139 : decode cX9_best 139 = .ok (.aload_n 0, 1) := by decide +kernel
theorem dX9_best_140 : decode cX9_best 140 = .ok (.getfield 80, 3) := by decide +kernel
theorem dX9_best_143 : decode cX9_best 143 = .ok (.iload 5, 2) := by decide +kernel
theorem dX9_best_145 : decode cX9_best 145 = .ok (.iaload, 1) := by decide +kernel
theorem dX9_best_146 : decode cX9_best 146 = .ok (.iastore, 1) := by decide +kernel
theorem dX9_best_147 : decode cX9_best 147 = .ok (.iinc 5 (-1), 3) := by decide +kernel
theorem dX9_best_150 : decode cX9_best 150 = .ok (.goto (-39), 3) := by decide +kernel
theorem dX9_best_153 : decode cX9_best 153 = .ok (.iload 5, 2) := by decide +kernel
theorem dX9_best_155 : decode cX9_best 155 = .ok (.ifCond .lt 7, 3) := by decide +kernel
theorem dX9_best_158 : decode cX9_best 158 = .ok (.iconst 1, 1) := by decide +kernel
theorem dX9_best_159 : decode cX9_best 159 = .ok (.goto 4, 3) := by decide +kernel
theorem dX9_best_162 : decode cX9_best 162 = .ok (.iconst 0, 1) := by decide +kernel
theorem dX9_best_163 : decode cX9_best 163 = .ok (.istore_n 3, 1) := by decide +kernel
theorem dX9_best_164 : decode cX9_best 164 = .ok (.aload_n 0, 1) := by decide +kernel
theorem dX9_best_165 : decode cX9_best 165 = .ok (.getfield 140, 3) := by decide +kernel
theorem dX9_best_168 : decode cX9_best 168 = .ok (.iload_n 3, 1) := by decide +kernel
theorem dX9_best_169 : decode cX9_best 169 = .ok (.ifCond .eq 8, 3) := by decide +kernel
theorem dX9_best_172 : decode cX9_best 172 = .ok (.iload 5, 2) := by decide +kernel
theorem dX9_best_174 : decode cX9_best 174 = .ok (.goto 4, 3) := by decide +kernel
theorem dX9_best_177 : decode cX9_best 177 = .ok (.iconst 0, 1) := by decide +kernel
theorem dX9_best_178 : decode cX9_best 178 = .ok (.dup2, 1) := by decide +kernel
theorem dX9_best_179 : decode cX9_best 179 = .ok (.iaload, 1) := by decide +kernel
theorem dX9_best_180 : decode cX9_best 180 = .ok (.iload_n 3, 1) := by decide +kernel
theorem dX9_best_181 : decode cX9_best 181 = .ok (.ifCond .eq 7, 3) := by decide +kernel
theorem dX9_best_184 : decode cX9_best 184 = .ok (.iconst 1, 1) := by decide +kernel
theorem dX9_best_185 : decode cX9_best 185 = .ok (.goto 4, 3) := by decide +kernel
theorem dX9_best_188 : decode cX9_best 188 = .ok (.iconst 0, 1) := by decide +kernel
theorem dX9_best_189 : decode cX9_best 189 = .ok (.iadd, 1) := by decide +kernel
theorem dX9_best_190 : decode cX9_best 190 = .ok (.iastore, 1) := by decide +kernel
theorem dX9_best_191 : decode cX9_best 191 = .ok (.goto (-139), 3) := by decide +kernel
theorem dX9_best_194 : decode cX9_best 194 = .ok (.iload_n 1, 1) := by decide +kernel
theorem dX9_best_195 : decode cX9_best 195 = .ok (.iconst (-1), 1) := by decide +kernel
theorem dX9_best_196 : decode cX9_best 196 = .ok (.if_icmp .ne 7, 3) := by decide +kernel
theorem dX9_best_199 : decode cX9_best 199 = .ok (.iload_n 2, 1) := by decide +kernel
theorem dX9_best_200 : decode cX9_best 200 = .ok (.goto 9, 3) := by decide +kernel
theorem dX9_best_203 : decode cX9_best 203 = .ok (.aload_n 0, 1) := by decide +kernel
theorem dX9_best_204 : decode cX9_best 204 = .ok (.getfield 143, 3) := by decide +kernel
theorem dX9_best_207 : decode cX9_best 207 = .ok (.iload_n 1, 1) := by decide +kernel
theorem dX9_best_208 : decode cX9_best 208 = .ok (.iaload, 1) := by decide +kernel
theorem dX9_best_209 : decode cX9_best 209 = .ok (.ireturn, 1) := by decide +kernel
theorem dX9_judge_0 : decode cX9_judge 0 = .ok (.iconst 0, 1) := by decide +kernel
theorem dX9_judge_1 : decode cX9_judge 1 = .ok (.istore_n 2, 1) := by decide +kernel
theorem dX9_judge_2 : decode cX9_judge 2 = .ok (.iload_n 2, 1) := by decide +kernel
theorem dX9_judge_3 : decode cX9_judge 3 = .ok (.aload_n 0, 1) := by decide +kernel
theorem dX9_judge_4 : decode cX9_judge 4 = .ok (.getfield 340, 3) := by decide +kernel
theorem dX9_judge_7 : decode cX9_judge 7 = .ok (.if_icmp .ge 48, 3) := by decide +kernel
theorem dX9_judge_10 : decode cX9_judge 10 = .ok (.aload_n 0, 1) := by decide +kernel
theorem dX9_judge_11 : decode cX9_judge 11 = .ok (.getfield 140, 3) := by decide +kernel
theorem dX9_judge_14 : decode cX9_judge 14 = .ok (.iload_n 2, 1) := by decide +kernel
theorem dX9_judge_15 : decode cX9_judge 15 = .ok (.aload_n 0, 1) := by decide +kernel
theorem dX9_judge_16 : decode cX9_judge 16 = .ok (.getfield 80, 3) := by decide +kernel
theorem dX9_judge_19 : decode cX9_judge 19 = .ok (.iload_n 2, 1) := by decide +kernel
theorem dX9_judge_20 : decode cX9_judge 20 = .ok (.iaload, 1) := by decide +kernel
theorem dX9_judge_21 : decode cX9_judge 21 = .ok (.iload_n 1, 1) := by decide +kernel
theorem dX9_judge_22 : decode cX9_judge 22 = .ok (.iconst 3, 1) := by decide +kernel
theorem dX9_judge_23 : decode cX9_judge 23 = .ok (.iload_n 2, 1) := by decide +kernel
theorem dX9_judge_24 : decode cX9_judge 24 = .ok (.imul, 1) := by decide +kernel
theorem dX9_judge_25 : decode cX9_judge 25 = .ok (.ishr, 1) := by decide +kernel
theorem dX9_judge_26 : decode cX9_judge 26 = .ok (.bipush 7, 2) := by decide +kernel
theorem dX9_judge_28 : decode cX9_judge 28 = .ok (.iand, 1) := by decide +kernel
theorem dX9_judge_29 : decode cX9_judge 29 = .ok (.iadd, 1) := by decide +kernel
theorem dX9_judge_30 : decode cX9_judge 30 = .ok (.iastore, 1) := by decide +kernel
theorem dX9_judge_31 : decode cX9_judge 31 = .ok (.aload_n 0, 1) := by decide +kernel
theorem dX9_judge_32 : decode cX9_judge 32 = .ok (.getfield 140, 3) := by decide +kernel
theorem dX9_judge_35 : decode cX9_judge 35 = .ok (.iload_n 2, 1) := by decide +kernel
theorem dX9_judge_36 : decode cX9_judge 36 = .ok (.iaload, 1) := by decide +kernel
theorem dX9_judge_37 : decode cX9_judge 37 = .ok (.aload_n 0, 1) := by decide +kernel
theorem dX9_judge_38 : decode cX9_judge 38 = .ok (.getfield 83, 3) := by decide +kernel
theorem dX9_judge_41 : decode cX9_judge 41 = .ok (.iload_n 2, 1) := by decide +kernel
theorem dX9_judge_42 : decode cX9_judge 42 = .ok (.iaload, 1) := by decide +kernel
theorem dX9_judge_43 : decode cX9_judge 43 = .ok (.if_icmp .le 6, 3) := by decide +kernel
theorem dX9_judge_46 : decode cX9_judge 46 = .ok (.bipush (-3), 2) := by decide +kernel
theorem dX9_judge_48 : decode cX9_judge 48 = .ok (.ireturn, 1) := by decide +kernel
theorem dX9_judge_49 : decode cX9_judge 49 = .ok (.iinc 2 1, 3) := by decide +kernel
theorem dX9_judge_52 : decode cX9_judge 52 = .ok (.goto (-50), 3) := by decide +kernel
theorem dX9_judge_55 : decode cX9_judge 55 = .ok (.aload_n 0, 1) := by decide +kernel
theorem dX9_judge_56 : decode cX9_judge 56 = .ok (.invokevirtual 350, 3) := by decide +kernel
theorem dX9_judge_59 : decode cX9_judge 59 = .ok (.ireturn, 1) := by decide +kernel
theorem dX9_spared_0 : decode cX9_spared 0 = .ok (.iload_n 1, 1) := by decide +kernel
theorem dX9_spared_1 : decode cX9_spared 1 = .ok (.invokestatic 353, 3) := by decide +kernel
theorem dX9_spared_4 : decode cX9_spared 4 = .ok (.ifCond .eq 15, 3) := by decide +kernel
theorem dX9_spared_7 : decode cX9_spared 7 = .ok (.iload_n 2, 1) := by decide +kernel
theorem dX9_spared_8 : decode cX9_spared 8 = .ok (.invokestatic 353, 3) := by decide +kernel
theorem dX9_spared_11 : decode cX9_spared 11 = .ok (.ifCond .eq 8, 3) := by decide +kernel
theorem dX9_spared_14 : decode cX9_spared 14 = .ok (.iload_n 1, 1) := by decide +kernel
theorem dX9_spared_15 : decode cX9_spared 15 = .ok (.iload_n 2, 1) := by decide +kernel
theorem dX9_spared_16 : decode cX9_spared 16 = .ok (.if_icmp .ne 6, 3) := by decide +kernel
theorem dX9_spared_19 : decode cX9_spared 19 = .ok (.bipush (-2), 2) := by decide +kernel
theorem dX9_spared_21 : decode cX9_spared 21 = .ok (.ireturn, 1) := by decide +kernel
theorem dX9_spared_22 : decode cX9_spared 22 = .ok (.iload_n 3, 1) := by decide +kernel
theorem dX9_spared_23 : decode cX9_spared 23 = .ok (.i2l, 1) := by decide +kernel
theorem dX9_spared_24 : decode cX9_spared 24 = .ok (.lconst 0, 1) := by decide +kernel
theorem dX9_spared_25 : decode cX9_spared 25 = .ok (.ldc2_w 250, 3) := by decide +kernel
theorem dX9_spared_28 : decode cX9_spared 28 = .ok (.invokestatic 154, 3) := by decide +kernel
theorem dX9_spared_31 : decode cX9_spared 31 = .ok (.ifCond .ne 6, 3) := by decide +kernel
theorem dX9_spared_34 : decode cX9_spared 34 = .ok (.bipush (-3), 2) := by decide +kernel
theorem dX9_spared_36 : decode cX9_spared 36 = .ok (.ireturn, 1) := by decide +kernel
theorem dX9_spared_37 : decode cX9_spared 37 = .ok (.aload_n 0, 1) := by decide +kernel
theorem dX9_spared_38 : decode cX9_spared 38 = .ok (.getfield 89, 3) := by decide +kernel
theorem dX9_spared_41 : decode cX9_spared 41 = .ok (.bipush 6, 2) := by decide +kernel
theorem dX9_spared_43 : decode cX9_spared 43 = .ok (.iload_n 1, 1) := by decide +kernel
theorem dX9_spared_44 : decode cX9_spared 44 = .ok (.imul, 1) := by decide +kernel
theorem dX9_spared_45 : decode cX9_spared 45 = .ok (.iload_n 2, 1) := by decide +kernel
theorem dX9_spared_46 : decode cX9_spared 46 = .ok (.iadd, 1) := by decide +kernel
theorem dX9_spared_47 : decode cX9_spared 47 = .ok (.iaload, 1) := by decide +kernel
theorem dX9_spared_48 : decode cX9_spared 48 = .ok (.istore 4, 2) := by decide +kernel
theorem dX9_spared_50 : decode cX9_spared 50 = .ok (.aload_n 0, 1) := by decide +kernel
theorem dX9_spared_51 : decode cX9_spared 51 = .ok (.getfield 89, 3) := by decide +kernel
theorem dX9_spared_54 : decode cX9_spared 54 = .ok (.bipush 6, 2) := by decide +kernel
theorem dX9_spared_56 : decode cX9_spared 56 = .ok (.iload_n 1, 1) := by decide +kernel
theorem dX9_spared_57 : decode cX9_spared 57 = .ok (.imul, 1) := by decide +kernel
theorem dX9_spared_58 : decode cX9_spared 58 = .ok (.iload_n 2, 1) := by decide +kernel
theorem dX9_spared_59 : decode cX9_spared 59 = .ok (.iadd, 1) := by decide +kernel
theorem dX9_spared_60 : decode cX9_spared 60 = .ok (.iload_n 3, 1) := by decide +kernel
theorem dX9_spared_61 : decode cX9_spared 61 = .ok (.iastore, 1) := by decide +kernel
theorem dX9_spared_62 : decode cX9_spared 62 = .ok (.iload 4, 2) := by decide +kernel
theorem dX9_spared_64 : decode cX9_spared 64 = .ok (.ireturn, 1) := by decide +kernel
theorem dX9_sparedIn_0 : decode cX9_sparedIn 0 = .ok (.iconst 0, 1) := by decide +kernel
theorem dX9_sparedIn_1 : decode cX9_sparedIn 1 = .ok (.istore_n 2, 1) := by decide +kernel
theorem dX9_sparedIn_2 : decode cX9_sparedIn 2 = .ok (.iconst (-1), 1) := by decide +kernel
theorem dX9_sparedIn_3 : decode cX9_sparedIn 3 = .ok (.istore_n 3, 1) := by decide +kernel
theorem dX9_sparedIn_4 : decode cX9_sparedIn 4 = .ok (.iconst 0, 1) := by decide +kernel
theorem dX9_sparedIn_5 : decode cX9_sparedIn 5 = .ok (.istore 4, 2) := by decide +kernel
theorem dX9_sparedIn_7 : decode cX9_sparedIn 7 = .ok (.iload 4, 2) := by decide +kernel
theorem dX9_sparedIn_9 : decode cX9_sparedIn 9 = .ok (.bipush 6, 2) := by decide +kernel
theorem dX9_sparedIn_11 : decode cX9_sparedIn 11 = .ok (.if_icmp .ge 46, 3) := by decide +kernel
theorem dX9_sparedIn_14 : decode cX9_sparedIn 14 = .ok (.iload_n 1, 1) := by decide +kernel
theorem dX9_sparedIn_15 : decode cX9_sparedIn 15 = .ok (.iload 4, 2) := by decide +kernel
theorem dX9_sparedIn_17 : decode cX9_sparedIn 17 = .ok (.ishr, 1) := by decide +kernel
theorem dX9_sparedIn_18 : decode cX9_sparedIn 18 = .ok (.iconst 1, 1) := by decide +kernel
theorem dX9_sparedIn_19 : decode cX9_sparedIn 19 = .ok (.iand, 1) := by decide +kernel
theorem dX9_sparedIn_20 : decode cX9_sparedIn 20 = .ok (.iconst 1, 1) := by decide +kernel
theorem dX9_sparedIn_21 : decode cX9_sparedIn 21 = .ok (.if_icmp .ne 30, 3) := by decide +kernel
theorem dX9_sparedIn_24 : decode cX9_sparedIn 24 = .ok (.iload_n 2, 1) := by decide +kernel
theorem dX9_sparedIn_25 : decode cX9_sparedIn 25 = .ok (.iload_n 3, 1) := by decide +kernel
theorem dX9_sparedIn_26 : decode cX9_sparedIn 26 = .ok (.iconst (-1), 1) := by decide +kernel
theorem dX9_sparedIn_27 : decode cX9_sparedIn 27 = .ok (.if_icmp .ne 7, 3) := by decide +kernel
theorem dX9_sparedIn_30 : decode cX9_sparedIn 30 = .ok (.iconst 0, 1) := by decide +kernel
theorem dX9_sparedIn_31 : decode cX9_sparedIn 31 = .ok (.goto 15, 3) := by decide +kernel
theorem dX9_sparedIn_34 : decode cX9_sparedIn 34 = .ok (.aload_n 0, 1) := by decide +kernel
theorem dX9_sparedIn_35 : decode cX9_sparedIn 35 = .ok (.getfield 89, 3) := by decide +kernel
theorem dX9_sparedIn_38 : decode cX9_sparedIn 38 = .ok (.bipush 6, 2) := by decide +kernel
theorem dX9_sparedIn_40 : decode cX9_sparedIn 40 = .ok (.iload 4, 2) := by decide +kernel
theorem dX9_sparedIn_42 : decode cX9_sparedIn 42 = .ok (.imul, 1) := by decide +kernel
theorem dX9_sparedIn_43 : decode cX9_sparedIn 43 = .ok (.iload_n 3, 1) := by decide +kernel
theorem dX9_sparedIn_44 : decode cX9_sparedIn 44 = .ok (.iadd, 1) := by decide +kernel
theorem dX9_sparedIn_45 : decode cX9_sparedIn 45 = .ok (.iaload, 1) := by decide +kernel
theorem dX9_sparedIn_46 : decode cX9_sparedIn 46 = .ok (.iadd, 1) := by decide +kernel
theorem dX9_sparedIn_47 : decode cX9_sparedIn 47 = .ok (.istore_n 2, 1) := by decide +kernel
theorem dX9_sparedIn_48 : decode cX9_sparedIn 48 = .ok (.iload 4, 2) := by decide +kernel
theorem dX9_sparedIn_50 : decode cX9_sparedIn 50 = .ok (.istore_n 3, 1) := by decide +kernel
theorem dX9_sparedIn_51 : decode cX9_sparedIn 51 = .ok (.iinc 4 1, 3) := by decide +kernel
theorem dX9_sparedIn_54 : decode cX9_sparedIn 54 = .ok (.goto (-47), 3) := by decide +kernel
theorem dX9_sparedIn_57 : decode cX9_sparedIn 57 = .ok (.iload_n 2, 1) := by decide +kernel
theorem dX9_sparedIn_58 : decode cX9_sparedIn 58 = .ok (.ireturn, 1) := by decide +kernel
theorem dX9_together_0 : decode cX9_together 0 = .ok (.iload_n 1, 1) := by decide +kernel
theorem dX9_together_1 : decode cX9_together 1 = .ok (.i2l, 1) := by decide +kernel
theorem dX9_together_2 : decode cX9_together 2 = .ok (.lconst 0, 1) := by decide +kernel
theorem dX9_together_3 : decode cX9_together 3 = .ok (.ldc2_w 356, 3) := by decide +kernel
theorem dX9_together_6 : decode cX9_together 6 = .ok (.invokestatic 154, 3) := by decide +kernel
theorem dX9_together_9 : decode cX9_together 9 = .ok (.ifCond .eq 11, 3) := by decide +kernel
theorem dX9_together_12 : decode cX9_together 12 = .ok (.aload_n 0, 1) := by decide +kernel
theorem dX9_together_13 : decode cX9_together 13 = .ok (.iload_n 1, 1) := by decide +kernel
theorem dX9_together_14 : decode cX9_together 14 = .ok (.invokevirtual 358, 3) := by decide +kernel
theorem dX9_together_17 : decode cX9_together 17 = .ok (.goto 5, 3) := by decide +kernel
theorem dX9_together_20 : decode cX9_together 20 = .ok (.bipush (-3), 2) := by decide +kernel
theorem dX9_together_22 : decode cX9_together 22 = .ok (.ireturn, 1) := by decide +kernel
theorem dX9_factorial_0 : decode cX9_factorial 0 = .ok (.iconst 1, 1) := by decide +kernel
theorem dX9_factorial_1 : decode cX9_factorial 1 = .ok (.istore_n 1, 1) := by decide +kernel
theorem dX9_factorial_2 : decode cX9_factorial 2 = .ok (.iconst 2, 1) := by decide +kernel
theorem dX9_factorial_3 : decode cX9_factorial 3 = .ok (.istore_n 2, 1) := by decide +kernel
theorem dX9_factorial_4 : decode cX9_factorial 4 = .ok (.iload_n 2, 1) := by decide +kernel
theorem dX9_factorial_5 : decode cX9_factorial 5 = .ok (.iload_n 0, 1) := by decide +kernel
theorem dX9_factorial_6 : decode cX9_factorial 6 = .ok (.if_icmp .gt 13, 3) := by decide +kernel
theorem dX9_factorial_9 : decode cX9_factorial 9 = .ok (.iload_n 1, 1) := by decide +kernel
theorem dX9_factorial_10 : decode cX9_factorial 10 = .ok (.iload_n 2, 1) := by decide +kernel
theorem dX9_factorial_11 : decode cX9_factorial 11 = .ok (.imul, 1) := by decide +kernel
theorem dX9_factorial_12 : decode cX9_factorial 12 = .ok (.istore_n 1, 1) := by decide +kernel
theorem dX9_factorial_13 : decode cX9_factorial 13 = .ok (.iinc 2 1, 3) := by decide +kernel
theorem dX9_factorial_16 : decode cX9_factorial 16 = .ok (.goto (-12), 3) := by decide +kernel
theorem dX9_factorial_19 : decode cX9_factorial 19 = .ok (.iload_n 1, 1) := by decide +kernel
theorem dX9_factorial_20 : decode cX9_factorial 20 = .ok (.ireturn, 1) := by decide +kernel
theorem dX9_shareOf_0 : decode cX9_shareOf 0 = .ok (.iconst 0, 1) := by decide +kernel
theorem dX9_shareOf_1 : decode cX9_shareOf 1 = .ok (.istore_n 3, 1) := by decide +kernel
theorem dX9_shareOf_2 : decode cX9_shareOf 2 = .ok (.iconst 0, 1) := by decide +kernel
theorem dX9_shareOf_3 : decode cX9_shareOf 3 = .ok (.istore 4, 2) := by decide +kernel
theorem dX9_shareOf_5 : decode cX9_shareOf 5 = .ok (.iload 4, 2) := by decide +kernel
theorem dX9_shareOf_7 : decode cX9_shareOf 7 = .ok (.iconst 1, 1) := by decide +kernel
theorem dX9_shareOf_8 : decode cX9_shareOf 8 = .ok (.iload_n 2, 1) := by decide +kernel
theorem dX9_shareOf_9 : decode cX9_shareOf 9 = .ok (.ishl, 1) := by decide +kernel
theorem dX9_shareOf_10 : decode cX9_shareOf 10 = .ok (.if_icmp .ge 61, 3) := by decide +kernel
theorem dX9_shareOf_13 : decode cX9_shareOf 13 = .ok (.iload 4, 2) := by decide +kernel
theorem dX9_shareOf_15 : decode cX9_shareOf 15 = .ok (.iload_n 1, 1) := by decide +kernel
theorem dX9_shareOf_16 : decode cX9_shareOf 16 = .ok (.ishr, 1) := by decide +kernel
theorem dX9_shareOf_17 : decode cX9_shareOf 17 = .ok (.iconst 1, 1) := by decide +kernel
theorem dX9_shareOf_18 : decode cX9_shareOf 18 = .ok (.iand, 1) := by decide +kernel
theorem dX9_shareOf_19 : decode cX9_shareOf 19 = .ok (.ifCond .ne 46, 3) := by decide +kernel
theorem dX9_shareOf_22 : decode cX9_shareOf 22 = .ok (.iload 4, 2) := by decide +kernel
theorem dX9_shareOf_24 : decode cX9_shareOf 24 = .ok (.invokestatic 326, 3) := by decide +kernel
theorem dX9_shareOf_27 : decode cX9_shareOf 27 = .ok (.istore 5, 2) := by decide +kernel
theorem dX9_shareOf_29 : decode cX9_shareOf 29 = .ok (.iload_n 3, 1) := by decide +kernel
theorem dX9_shareOf_30 : decode cX9_shareOf 30 = .ok (.iload 5, 2) := by decide +kernel
theorem dX9_shareOf_32 : decode cX9_shareOf 32 = .ok (.invokestatic 361, 3) := by decide +kernel
theorem dX9_shareOf_35 : decode cX9_shareOf 35 = .ok (.iload_n 2, 1) := by decide +kernel
theorem dX9_shareOf_36 : decode cX9_shareOf 36 = .ok (.iload 5, 2) := by decide +kernel
theorem dX9_shareOf_38 : decode cX9_shareOf 38 = .ok (.isub, 1) := by decide +kernel
theorem dX9_shareOf_39 : decode cX9_shareOf 39 = .ok (.iconst 1, 1) := by decide +kernel
theorem dX9_shareOf_40 : decode cX9_shareOf 40 = .ok (.isub, 1) := by decide +kernel
theorem dX9_shareOf_41 : decode cX9_shareOf 41 = .ok (.invokestatic 361, 3) := by decide +kernel
theorem dX9_shareOf_44 : decode cX9_shareOf 44 = .ok (.imul, 1) := by decide +kernel
theorem dX9_shareOf_45 : decode cX9_shareOf 45 = .ok (.aload_n 0, 1) := by decide +kernel
theorem dX9_shareOf_46 : decode cX9_shareOf 46 = .ok (.iload 4, 2) := by decide +kernel
theorem dX9_shareOf_48 : decode cX9_shareOf 48 = .ok (.iconst 1, 1) := by decide +kernel
theorem dX9_shareOf_49 : decode cX9_shareOf 49 = .ok (.iload_n 1, 1) := by decide +kernel
theorem dX9_shareOf_50 : decode cX9_shareOf 50 = .ok (.ishl, 1) := by decide +kernel
theorem dX9_shareOf_51 : decode cX9_shareOf 51 = .ok (.ior, 1) := by decide +kernel
theorem dX9_shareOf_52 : decode cX9_shareOf 52 = .ok (.invokevirtual 358, 3) := by decide +kernel
theorem dX9_shareOf_55 : decode cX9_shareOf 55 = .ok (.aload_n 0, 1) := by decide +kernel
theorem dX9_shareOf_56 : decode cX9_shareOf 56 = .ok (.iload 4, 2) := by decide +kernel
theorem dX9_shareOf_58 : decode cX9_shareOf 58 = .ok (.invokevirtual 358, 3) := by decide +kernel
theorem dX9_shareOf_61 : decode cX9_shareOf 61 = .ok (.isub, 1) := by decide +kernel
theorem dX9_shareOf_62 : decode cX9_shareOf 62 = .ok (.imul, 1) := by decide +kernel
theorem dX9_shareOf_63 : decode cX9_shareOf 63 = .ok (.iadd, 1) := by decide +kernel
theorem dX9_shareOf_64 : decode cX9_shareOf 64 = .ok (.istore_n 3, 1) := by decide +kernel
theorem dX9_shareOf_65 : decode cX9_shareOf 65 = .ok (.iinc 4 1, 3) := by decide +kernel
theorem dX9_shareOf_68 : decode cX9_shareOf 68 = .ok (.goto (-63), 3) := by decide +kernel
theorem dX9_shareOf_71 : decode cX9_shareOf 71 = .ok (.iload_n 3, 1) := by decide +kernel
theorem dX9_shareOf_72 : decode cX9_shareOf 72 = .ok (.ireturn, 1) := by decide +kernel
theorem dX9_divisor_0 : decode cX9_divisor 0 = .ok (.iload_n 0, 1) := by decide +kernel
theorem dX9_divisor_1 : decode cX9_divisor 1 = .ok (.ifCond .ge 8, 3) := by decide +kernel
theorem dX9_divisor_4 : decode cX9_divisor 4 = .ok (.iload_n 0, 1) := by decide +kernel
theorem dX9_divisor_5 : decode cX9_divisor 5 = .ok (.ineg, 1) := by decide +kernel
theorem dX9_divisor_6 : decode cX9_divisor 6 = .ok (.goto 4, 3) := by decide +kernel
theorem dX9_divisor_9 : decode cX9_divisor 9 = .ok (.iload_n 0, 1) := by decide +kernel
theorem dX9_divisor_10 : decode cX9_divisor 10 = .ok (.istore_n 2, 1) := by decide +kernel
theorem dX9_divisor_11 : decode cX9_divisor 11 = .ok (.iload_n 1, 1) := by decide +kernel
theorem dX9_divisor_12 : decode cX9_divisor 12 = .ok (.istore_n 3, 1) := by decide +kernel
theorem dX9_divisor_13 : decode cX9_divisor 13 = .ok (.iload_n 3, 1) := by decide +kernel
theorem dX9_divisor_14 : decode cX9_divisor 14 = .ok (.ifCond .eq 16, 3) := by decide +kernel
theorem dX9_divisor_17 : decode cX9_divisor 17 = .ok (.iload_n 2, 1) := by decide +kernel
theorem dX9_divisor_18 : decode cX9_divisor 18 = .ok (.iload_n 3, 1) := by decide +kernel
theorem dX9_divisor_19 : decode cX9_divisor 19 = .ok (.irem, 1) := by decide +kernel
theorem dX9_divisor_20 : decode cX9_divisor 20 = .ok (.istore 4, 2) := by decide +kernel
theorem dX9_divisor_22 : decode cX9_divisor 22 = .ok (.iload_n 3, 1) := by decide +kernel
theorem dX9_divisor_23 : decode cX9_divisor 23 = .ok (.istore_n 2, 1) := by decide +kernel
theorem dX9_divisor_24 : decode cX9_divisor 24 = .ok (.iload 4, 2) := by decide +kernel
theorem dX9_divisor_26 : decode cX9_divisor 26 = .ok (.istore_n 3, 1) := by decide +kernel
theorem dX9_divisor_27 : decode cX9_divisor 27 = .ok (.goto (-14), 3) := by decide +kernel
theorem dX9_divisor_30 : decode cX9_divisor 30 = .ok (.iload_n 2, 1) := by decide +kernel
theorem dX9_divisor_31 : decode cX9_divisor 31 = .ok (.ireturn, 1) := by decide +kernel
theorem dX9_cut_0 : decode cX9_cut 0 = .ok (.iload_n 0, 1) := by decide +kernel
theorem dX9_cut_1 : decode cX9_cut 1 = .ok (.ifCond .lt 9, 3) := by decide +kernel
theorem dX9_cut_4 : decode cX9_cut 4 = .ok (.iload_n 0, 1) := by decide +kernel
theorem dX9_cut_5 : decode cX9_cut 5 = .ok (.iload_n 1, 1) := by decide +kernel
theorem dX9_cut_6 : decode cX9_cut 6 = .ok (.idiv, 1) := by decide +kernel
theorem dX9_cut_7 : decode cX9_cut 7 = .ok (.goto 11, 3) := by decide +kernel
theorem dX9_cut_10 : decode cX9_cut 10 = .ok (.iload_n 1, 1) := by decide +kernel
theorem dX9_cut_11 : decode cX9_cut 11 = .ok (.iconst 1, 1) := by decide +kernel
theorem dX9_cut_12 : decode cX9_cut 12 = .ok (.isub, 1) := by decide +kernel
theorem dX9_cut_13 : decode cX9_cut 13 = .ok (.iload_n 0, 1) := by decide +kernel
theorem dX9_cut_14 : decode cX9_cut 14 = .ok (.isub, 1) := by decide +kernel
theorem dX9_cut_15 : decode cX9_cut 15 = .ok (.iload_n 1, 1) := by decide +kernel
theorem dX9_cut_16 : decode cX9_cut 16 = .ok (.idiv, 1) := by decide +kernel
theorem dX9_cut_17 : decode cX9_cut 17 = .ok (.ineg, 1) := by decide +kernel
theorem dX9_cut_18 : decode cX9_cut 18 = .ok (.ireturn, 1) := by decide +kernel
theorem dX9_coins_0 : decode cX9_coins 0 = .ok (.iload_n 2, 1) := by decide +kernel
theorem dX9_coins_1 : decode cX9_coins 1 = .ok (.invokestatic 361, 3) := by decide +kernel
theorem dX9_coins_4 : decode cX9_coins 4 = .ok (.istore_n 3, 1) := by decide +kernel
theorem dX9_coins_5 : decode cX9_coins 5 = .ok (.aload_n 0, 1) := by decide +kernel
theorem dX9_coins_6 : decode cX9_coins 6 = .ok (.iconst 1, 1) := by decide +kernel
theorem dX9_coins_7 : decode cX9_coins 7 = .ok (.iload_n 2, 1) := by decide +kernel
theorem dX9_coins_8 : decode cX9_coins 8 = .ok (.ishl, 1) := by decide +kernel
theorem dX9_coins_9 : decode cX9_coins 9 = .ok (.iconst 1, 1) := by decide +kernel
theorem dX9_coins_10 : decode cX9_coins 10 = .ok (.isub, 1) := by decide +kernel
theorem dX9_coins_11 : decode cX9_coins 11 = .ok (.invokevirtual 358, 3) := by decide +kernel
theorem dX9_coins_14 : decode cX9_coins 14 = .ok (.istore 4, 2) := by decide +kernel
theorem dX9_coins_16 : decode cX9_coins 16 = .ok (.iconst 0, 1) := by decide +kernel
theorem dX9_coins_17 : decode cX9_coins 17 = .ok (.istore 5, 2) := by decide +kernel
theorem dX9_coins_19 : decode cX9_coins 19 = .ok (.aload_n 0, 1) := by decide +kernel
theorem dX9_coins_20 : decode cX9_coins 20 = .ok (.iload_n 1, 1) := by decide +kernel
theorem dX9_coins_21 : decode cX9_coins 21 = .ok (.iload_n 2, 1) := by decide +kernel
theorem dX9_coins_22 : decode cX9_coins 22 = .ok (.invokevirtual 364, 3) := by decide +kernel
theorem dX9_coins_25 : decode cX9_coins 25 = .ok (.iload_n 3, 1) := by decide +kernel
theorem dX9_coins_26 : decode cX9_coins 26 = .ok (.aload_n 0, 1) := by decide +kernel
theorem dX9_coins_27 : decode cX9_coins 27 = .ok (.iload_n 1, 1) := by decide +kernel
theorem dX9_coins_28 : decode cX9_coins 28 = .ok (.iload_n 2, 1) := by decide +kernel
theorem dX9_coins_29 : decode cX9_coins 29 = .ok (.invokevirtual 364, 3) := by decide +kernel
theorem dX9_coins_32 : decode cX9_coins 32 = .ok (.iload_n 3, 1) := by decide +kernel
theorem dX9_coins_33 : decode cX9_coins 33 = .ok (.invokestatic 367, 3) := by decide +kernel
theorem dX9_coins_36 : decode cX9_coins 36 = .ok (.imul, 1) := by decide +kernel
theorem dX9_coins_37 : decode cX9_coins 37 = .ok (.isub, 1) := by decide +kernel
theorem dX9_coins_38 : decode cX9_coins 38 = .ok (.istore 6, 2) := by decide +kernel
theorem dX9_coins_40 : decode cX9_coins 40 = .ok (.iconst 0, 1) := by decide +kernel
theorem dX9_coins_41 : decode cX9_coins 41 = .ok (.istore 7, 2) := by decide +kernel
theorem dX9_coins_43 : decode cX9_coins 43 = .ok (.iload 7, 2) := by decide +kernel
theorem dX9_coins_45 : decode cX9_coins 45 = .ok (.iload_n 2, 1) := by decide +kernel
theorem dX9_coins_46 : decode cX9_coins 46 = .ok (.if_icmp .ge 72, 3) := by decide +kernel
theorem dX9_coins_49 : decode cX9_coins 49 = .ok (.aload_n 0, 1) := by decide +kernel
theorem dX9_coins_50 : decode cX9_coins 50 = .ok (.iload 7, 2) := by decide +kernel
theorem dX9_coins_52 : decode cX9_coins 52 = .ok (.iload_n 2, 1) := by decide +kernel
theorem dX9_coins_53 : decode cX9_coins 53 = .ok (.invokevirtual 364, 3) := by decide +kernel
theorem dX9_coins_56 : decode cX9_coins 56 = .ok (.istore 8, 2) := by decide +kernel
theorem dX9_coins_58 : decode cX9_coins 58 = .ok (.iload 8, 2) := by decide +kernel
theorem dX9_coins_60 : decode cX9_coins 60 = .ok (.iload_n 3, 1) := by decide +kernel
theorem dX9_coins_61 : decode cX9_coins 61 = .ok (.iload 8, 2) := by decide +kernel
theorem dX9_coins_63 : decode cX9_coins 63 = .ok (.iload_n 3, 1) := by decide +kernel
theorem dX9_coins_64 : decode cX9_coins 64 = .ok (.invokestatic 367, 3) := by decide +kernel
theorem dX9_coins_67 : decode cX9_coins 67 = .ok (.imul, 1) := by decide +kernel
theorem dX9_coins_68 : decode cX9_coins 68 = .ok (.isub, 1) := by decide +kernel
theorem dX9_coins_69 : decode cX9_coins 69 = .ok (.istore 9, 2) := by decide +kernel
theorem dX9_coins_71 : decode cX9_coins 71 = .ok (.iload 4, 2) := by decide +kernel
theorem dX9_coins_73 : decode cX9_coins 73 = .ok (.iload 8, 2) := by decide +kernel
theorem dX9_coins_75 : decode cX9_coins 75 = .ok (.iload_n 3, 1) := by decide +kernel
theorem dX9_coins_76 : decode cX9_coins 76 = .ok (.invokestatic 367, 3) := by decide +kernel
theorem dX9_coins_79 : decode cX9_coins 79 = .ok (.isub, 1) := by decide +kernel
theorem dX9_coins_80 : decode cX9_coins 80 = .ok (.istore 4, 2) := by decide +kernel
theorem dX9_coins_82 : decode cX9_coins 82 = .ok (.iload 5, 2) := by decide +kernel
theorem dX9_coins_84 : decode cX9_coins 84 = .ok (.iload 9, 2) := by decide +kernel
theorem dX9_coins_86 : decode cX9_coins 86 = .ok (.iload 6, 2) := by decide +kernel
theorem dX9_coins_88 : decode cX9_coins 88 = .ok (.if_icmp .gt 16, 3) := by decide +kernel
theorem dX9_coins_91 : decode cX9_coins 91 = .ok (.iload 9, 2) := by decide +kernel
theorem dX9_coins_93 : decode cX9_coins 93 = .ok (.iload 6, 2) := by decide +kernel
theorem dX9_coins_95 : decode cX9_coins 95 = .ok (.if_icmp .ne 13, 3) := by decide +kernel
theorem dX9_coins_98 : decode cX9_coins 98 = .ok (.iload 7, 2) := by decide +kernel
theorem dX9_coins_100 : decode cX9_coins 100 = .ok (.iload_n 1, 1) := by decide +kernel
theorem dX9_coins_101 : decode cX9_coins 101 = .ok (.if_icmp .ge 7, 3) := by decide +kernel
theorem dX9_coins_104 : decode cX9_coins 104 = .ok (.iconst 1, 1) := by decide +kernel
theorem dX9_coins_105 : decode cX9_coins 105 = .ok (.goto 4, 3) := by decide +kernel
theorem dX9_coins_108 : decode cX9_coins 108 = .ok (.iconst 0, 1) := by decide +kernel
theorem dX9_coins_109 : decode cX9_coins 109 = .ok (.iadd, 1) := by decide +kernel
theorem dX9_coins_110 : decode cX9_coins 110 = .ok (.istore 5, 2) := by decide +kernel
theorem dX9_coins_112 : decode cX9_coins 112 = .ok (.iinc 7 1, 3) := by decide +kernel
theorem dX9_coins_115 : decode cX9_coins 115 = .ok (.goto (-72), 3) := by decide +kernel
theorem dX9_coins_118 : decode cX9_coins 118 = .ok (.aload_n 0, 1) := by decide +kernel
theorem dX9_coins_119 : decode cX9_coins 119 = .ok (.iload_n 1, 1) := by decide +kernel
theorem dX9_coins_120 : decode cX9_coins 120 = .ok (.iload_n 2, 1) := by decide +kernel
theorem dX9_coins_121 : decode cX9_coins 121 = .ok (.invokevirtual 364, 3) := by decide +kernel
theorem dX9_coins_124 : decode cX9_coins 124 = .ok (.iload_n 3, 1) := by decide +kernel
theorem dX9_coins_125 : decode cX9_coins 125 = .ok (.invokestatic 367, 3) := by decide +kernel
theorem dX9_coins_128 : decode cX9_coins 128 = .ok (.iload 5, 2) := by decide +kernel
theorem dX9_coins_130 : decode cX9_coins 130 = .ok (.iload 4, 2) := by decide +kernel
theorem dX9_coins_132 : decode cX9_coins 132 = .ok (.if_icmp .ge 7, 3) := by decide +kernel
theorem dX9_coins_135 : decode cX9_coins 135 = .ok (.iconst 1, 1) := by decide +kernel
theorem dX9_coins_136 : decode cX9_coins 136 = .ok (.goto 4, 3) := by decide +kernel
theorem dX9_coins_139 : decode cX9_coins 139 = .ok (.iconst 0, 1) := by decide +kernel
theorem dX9_coins_140 : decode cX9_coins 140 = .ok (.iadd, 1) := by decide +kernel
theorem dX9_coins_141 : decode cX9_coins 141 = .ok (.ireturn, 1) := by decide +kernel
theorem dX9_share_0 : decode cX9_share 0 = .ok (.iload_n 2, 1) := by decide +kernel
theorem dX9_share_1 : decode cX9_share 1 = .ok (.i2l, 1) := by decide +kernel
theorem dX9_share_2 : decode cX9_share 2 = .ok (.lconst 1, 1) := by decide +kernel
theorem dX9_share_3 : decode cX9_share 3 = .ok (.ldc2_w 246, 3) := by decide +kernel
theorem dX9_share_6 : decode cX9_share 6 = .ok (.invokestatic 154, 3) := by decide +kernel
theorem dX9_share_9 : decode cX9_share 9 = .ok (.ifCond .eq 15, 3) := by decide +kernel
theorem dX9_share_12 : decode cX9_share 12 = .ok (.iload_n 3, 1) := by decide +kernel
theorem dX9_share_13 : decode cX9_share 13 = .ok (.i2l, 1) := by decide +kernel
theorem dX9_share_14 : decode cX9_share 14 = .ok (.lconst 0, 1) := by decide +kernel
theorem dX9_share_15 : decode cX9_share 15 = .ok (.ldc2_w 329, 3) := by decide +kernel
theorem dX9_share_18 : decode cX9_share 18 = .ok (.invokestatic 154, 3) := by decide +kernel
theorem dX9_share_21 : decode cX9_share 21 = .ok (.ifCond .ne 43, 3) := by decide +kernel
theorem dX9_share_24 : decode cX9_share 24 = .ok (.iload_n 2, 1) := by decide +kernel
theorem dX9_share_25 : decode cX9_share 25 = .ok (.i2l, 1) := by decide +kernel
theorem dX9_share_26 : decode cX9_share 26 = .ok (.lconst 1, 1) := by decide +kernel
theorem dX9_share_27 : decode cX9_share 27 = .ok (.ldc2_w 246, 3) := by decide +kernel
theorem dX9_share_30 : decode cX9_share 30 = .ok (.invokestatic 154, 3) := by decide +kernel
theorem dX9_share_33 : decode cX9_share 33 = .ok (.ifCond .eq 16, 3) := by decide +kernel
theorem dX9_share_36 : decode cX9_share 36 = .ok (.iload_n 1, 1) := by decide +kernel
theorem dX9_share_37 : decode cX9_share 37 = .ok (.i2l, 1) := by decide +kernel
theorem dX9_share_38 : decode cX9_share 38 = .ok (.lconst 0, 1) := by decide +kernel
theorem dX9_share_39 : decode cX9_share 39 = .ok (.iload_n 2, 1) := by decide +kernel
theorem dX9_share_40 : decode cX9_share 40 = .ok (.iconst 1, 1) := by decide +kernel
theorem dX9_share_41 : decode cX9_share 41 = .ok (.isub, 1) := by decide +kernel
theorem dX9_share_42 : decode cX9_share 42 = .ok (.i2l, 1) := by decide +kernel
theorem dX9_share_43 : decode cX9_share 43 = .ok (.invokestatic 154, 3) := by decide +kernel
theorem dX9_share_46 : decode cX9_share 46 = .ok (.ifCond .eq 10, 3) := by decide +kernel
theorem dX9_share_49 : decode cX9_share 49 = .ok (.iload_n 1, 1) := by decide +kernel
theorem dX9_share_50 : decode cX9_share 50 = .ok (.invokestatic 353, 3) := by decide +kernel
theorem dX9_share_53 : decode cX9_share 53 = .ok (.ifCond .ne 8, 3) := by decide +kernel
theorem dX9_share_56 : decode cX9_share 56 = .ok (.bipush (-2), 2) := by decide +kernel
theorem dX9_share_58 : decode cX9_share 58 = .ok (.goto 5, 3) := by decide +kernel
theorem dX9_share_61 : decode cX9_share 61 = .ok (.bipush (-3), 2) := by decide +kernel
theorem dX9_share_63 : decode cX9_share 63 = .ok (.ireturn, 1) := by decide +kernel
theorem dX9_share_64 : decode cX9_share 64 = .ok (.iload_n 1, 1) := by decide +kernel
theorem dX9_share_65 : decode cX9_share 65 = .ok (.i2l, 1) := by decide +kernel
theorem dX9_share_66 : decode cX9_share 66 = .ok (.lconst 0, 1) := by decide +kernel
theorem dX9_share_67 : decode cX9_share 67 = .ok (.iload_n 2, 1) := by decide +kernel
theorem dX9_share_68 : decode cX9_share 68 = .ok (.iconst 1, 1) := by decide +kernel
theorem dX9_share_69 : decode cX9_share 69 = .ok (.isub, 1) := by decide +kernel
theorem dX9_share_70 : decode cX9_share 70 = .ok (.i2l, 1) := by decide +kernel
theorem dX9_share_71 : decode cX9_share 71 = .ok (.invokestatic 154, 3) := by decide +kernel
theorem dX9_share_74 : decode cX9_share 74 = .ok (.ifCond .ne 6, 3) := by decide +kernel
theorem dX9_share_77 : decode cX9_share 77 = .ok (.bipush (-2), 2) := by decide +kernel
theorem dX9_share_79 : decode cX9_share 79 = .ok (.ireturn, 1) := by decide +kernel
theorem dX9_share_80 : decode cX9_share 80 = .ok (.iload_n 3, 1) := by decide +kernel
theorem dX9_share_81 : decode cX9_share 81 = .ok (.iconst 2, 1) := by decide +kernel
theorem dX9_share_82 : decode cX9_share 82 = .ok (.if_icmp .ne 10, 3) := by decide +kernel
theorem dX9_share_85 : decode cX9_share 85 = .ok (.aload_n 0, 1) := by decide +kernel
theorem dX9_share_86 : decode cX9_share 86 = .ok (.iload_n 1, 1) := by decide +kernel
theorem dX9_share_87 : decode cX9_share 87 = .ok (.iload_n 2, 1) := by decide +kernel
theorem dX9_share_88 : decode cX9_share 88 = .ok (.invokevirtual 370, 3) := by decide +kernel
theorem dX9_share_91 : decode cX9_share 91 = .ok (.ireturn, 1) := by decide +kernel
theorem dX9_share_92 : decode cX9_share 92 = .ok (.aload_n 0, 1) := by decide +kernel
theorem dX9_share_93 : decode cX9_share 93 = .ok (.iload_n 1, 1) := by decide +kernel
theorem dX9_share_94 : decode cX9_share 94 = .ok (.iload_n 2, 1) := by decide +kernel
theorem dX9_share_95 : decode cX9_share 95 = .ok (.invokevirtual 364, 3) := by decide +kernel
theorem dX9_share_98 : decode cX9_share 98 = .ok (.istore 4, 2) := by decide +kernel
theorem dX9_share_100 : decode cX9_share 100 = .ok (.iload 4, 2) := by decide +kernel
theorem dX9_share_102 : decode cX9_share 102 = .ok (.iload_n 2, 1) := by decide +kernel
theorem dX9_share_103 : decode cX9_share 103 = .ok (.invokestatic 361, 3) := by decide +kernel
theorem dX9_share_106 : decode cX9_share 106 = .ok (.invokestatic 373, 3) := by decide +kernel
theorem dX9_share_109 : decode cX9_share 109 = .ok (.istore 5, 2) := by decide +kernel
theorem dX9_share_111 : decode cX9_share 111 = .ok (.iload_n 3, 1) := by decide +kernel
theorem dX9_share_112 : decode cX9_share 112 = .ok (.ifCond .ne 11, 3) := by decide +kernel
theorem dX9_share_115 : decode cX9_share 115 = .ok (.iload 4, 2) := by decide +kernel
theorem dX9_share_117 : decode cX9_share 117 = .ok (.iload 5, 2) := by decide +kernel
theorem dX9_share_119 : decode cX9_share 119 = .ok (.idiv, 1) := by decide +kernel
theorem dX9_share_120 : decode cX9_share 120 = .ok (.goto 10, 3) := by decide +kernel
theorem dX9_share_123 : decode cX9_share 123 = .ok (.iload_n 2, 1) := by decide +kernel
theorem dX9_share_124 : decode cX9_share 124 = .ok (.invokestatic 361, 3) := by decide +kernel
theorem dX9_share_127 : decode cX9_share 127 = .ok (.iload 5, 2) := by decide +kernel
theorem dX9_share_129 : decode cX9_share 129 = .ok (.idiv, 1) := by decide +kernel
theorem dX9_share_130 : decode cX9_share 130 = .ok (.ireturn, 1) := by decide +kernel
theorem dX9_clock_0 : decode cX9_clock 0 = .ok (.iload_n 1, 1) := by decide +kernel
theorem dX9_clock_1 : decode cX9_clock 1 = .ok (.invokestatic 353, 3) := by decide +kernel
theorem dX9_clock_4 : decode cX9_clock 4 = .ok (.ifCond .ne 6, 3) := by decide +kernel
theorem dX9_clock_7 : decode cX9_clock 7 = .ok (.bipush (-2), 2) := by decide +kernel
theorem dX9_clock_9 : decode cX9_clock 9 = .ok (.ireturn, 1) := by decide +kernel
theorem dX9_clock_10 : decode cX9_clock 10 = .ok (.iload_n 2, 1) := by decide +kernel
theorem dX9_clock_11 : decode cX9_clock 11 = .ok (.i2l, 1) := by decide +kernel
theorem dX9_clock_12 : decode cX9_clock 12 = .ok (.lconst 0, 1) := by decide +kernel
theorem dX9_clock_13 : decode cX9_clock 13 = .ok (.ldc2_w 376, 3) := by decide +kernel
theorem dX9_clock_16 : decode cX9_clock 16 = .ok (.invokestatic 154, 3) := by decide +kernel
theorem dX9_clock_19 : decode cX9_clock 19 = .ok (.ifCond .ne 6, 3) := by decide +kernel
theorem dX9_clock_22 : decode cX9_clock 22 = .ok (.bipush (-3), 2) := by decide +kernel
theorem dX9_clock_24 : decode cX9_clock 24 = .ok (.ireturn, 1) := by decide +kernel
theorem dX9_clock_25 : decode cX9_clock 25 = .ok (.aload_n 0, 1) := by decide +kernel
theorem dX9_clock_26 : decode cX9_clock 26 = .ok (.getfield 92, 3) := by decide +kernel
theorem dX9_clock_29 : decode cX9_clock 29 = .ok (.iload_n 1, 1) := by decide +kernel
theorem dX9_clock_30 : decode cX9_clock 30 = .ok (.iaload, 1) := by decide +kernel
theorem dX9_clock_31 : decode cX9_clock 31 = .ok (.istore_n 3, 1) := by decide +kernel
theorem dX9_clock_32 : decode cX9_clock 32 = .ok (.aload_n 0, 1) := by decide +kernel
theorem dX9_clock_33 : decode cX9_clock 33 = .ok (.getfield 92, 3) := by decide +kernel
theorem dX9_clock_36 : decode cX9_clock 36 = .ok (.iload_n 1, 1) := by decide +kernel
theorem dX9_clock_37 : decode cX9_clock 37 = .ok (.iload_n 2, 1) := by decide +kernel
theorem dX9_clock_38 : decode cX9_clock 38 = .ok (.iastore, 1) := by decide +kernel
theorem dX9_clock_39 : decode cX9_clock 39 = .ok (.iload_n 3, 1) := by decide +kernel
theorem dX9_clock_40 : decode cX9_clock 40 = .ok (.ireturn, 1) := by decide +kernel
theorem dX9_event_0 : decode cX9_event 0 = .ok (.iload_n 1, 1) := by decide +kernel
theorem dX9_event_1 : decode cX9_event 1 = .ok (.invokestatic 353, 3) := by decide +kernel
theorem dX9_event_4 : decode cX9_event 4 = .ok (.ifCond .ne 6, 3) := by decide +kernel
theorem dX9_event_7 : decode cX9_event 7 = .ok (.bipush (-2), 2) := by decide +kernel
theorem dX9_event_9 : decode cX9_event 9 = .ok (.ireturn, 1) := by decide +kernel
theorem dX9_event_10 : decode cX9_event 10 = .ok (.iload_n 2, 1) := by decide +kernel
theorem dX9_event_11 : decode cX9_event 11 = .ok (.i2l, 1) := by decide +kernel
theorem dX9_event_12 : decode cX9_event 12 = .ok (.lconst 0, 1) := by decide +kernel
theorem dX9_event_13 : decode cX9_event 13 = .ok (.ldc2_w 378, 3) := by decide +kernel
theorem dX9_event_16 : decode cX9_event 16 = .ok (.invokestatic 154, 3) := by decide +kernel
theorem dX9_event_19 : decode cX9_event 19 = .ok (.ifCond .ne 6, 3) := by decide +kernel
theorem dX9_event_22 : decode cX9_event 22 = .ok (.bipush (-3), 2) := by decide +kernel
theorem dX9_event_24 : decode cX9_event 24 = .ok (.ireturn, 1) := by decide +kernel
theorem dX9_event_25 : decode cX9_event 25 = .ok (.aload_n 0, 1) := by decide +kernel
theorem dX9_event_26 : decode cX9_event 26 = .ok (.getfield 380, 3) := by decide +kernel
theorem dX9_event_29 : decode cX9_event 29 = .ok (.bipush 12, 2) := by decide +kernel
theorem dX9_event_31 : decode cX9_event 31 = .ok (.if_icmp .ne 6, 3) := by decide +kernel
theorem dX9_event_34 : decode cX9_event 34 = .ok (.bipush (-5), 2) := by decide +kernel
theorem dX9_event_36 : decode cX9_event 36 = .ok (.ireturn, 1) := by decide +kernel
theorem dX9_event_37 : decode cX9_event 37 = .ok (.aload_n 0, 1) := by decide +kernel
theorem dX9_event_38 : decode cX9_event 38 = .ok (.getfield 95, 3) := by decide +kernel
theorem dX9_event_41 : decode cX9_event 41 = .ok (.aload_n 0, 1) := by decide +kernel
theorem dX9_event_42 : decode cX9_event 42 = .ok (.getfield 380, 3) := by decide +kernel
theorem dX9_event_45 : decode cX9_event 45 = .ok (.iload_n 1, 1) := by decide +kernel
theorem dX9_event_46 : decode cX9_event 46 = .ok (.iastore, 1) := by decide +kernel
theorem dX9_event_47 : decode cX9_event 47 = .ok (.aload_n 0, 1) := by decide +kernel
theorem dX9_event_48 : decode cX9_event 48 = .ok (.getfield 98, 3) := by decide +kernel
theorem dX9_event_51 : decode cX9_event 51 = .ok (.aload_n 0, 1) := by decide +kernel
theorem dX9_event_52 : decode cX9_event 52 = .ok (.getfield 380, 3) := by decide +kernel
theorem dX9_event_55 : decode cX9_event 55 = .ok (.iload_n 2, 1) := by decide +kernel
theorem dX9_event_56 : decode cX9_event 56 = .ok (.iastore, 1) := by decide +kernel
theorem dX9_event_57 : decode cX9_event 57 = .ok (.aload_n 0, 1) := by decide +kernel
theorem dX9_event_58 : decode cX9_event 58 = .ok (.dup, 1) := by decide +kernel
theorem dX9_event_59 : decode cX9_event 59 = .ok (.getfield 380, 3) := by decide +kernel
theorem dX9_event_62 : decode cX9_event 62 = .ok (.iconst 1, 1) := by decide +kernel
theorem dX9_event_63 : decode cX9_event 63 = .ok (.iadd, 1) := by decide +kernel
theorem dX9_event_64 : decode cX9_event 64 = .ok (.putfield 380, 3) := by decide +kernel
theorem dX9_event_67 : decode cX9_event 67 = .ok (.aload_n 0, 1) := by decide +kernel
theorem dX9_event_68 : decode cX9_event 68 = .ok (.getfield 380, 3) := by decide +kernel
theorem dX9_event_71 : decode cX9_event 71 = .ok (.iconst 1, 1) := by decide +kernel
theorem dX9_event_72 : decode cX9_event 72 = .ok (.isub, 1) := by decide +kernel
theorem dX9_event_73 : decode cX9_event 73 = .ok (.ireturn, 1) := by decide +kernel
theorem dX9_isEvent_0 : decode cX9_isEvent 0 = .ok (.iload_n 1, 1) := by decide +kernel
theorem dX9_isEvent_1 : decode cX9_isEvent 1 = .ok (.i2l, 1) := by decide +kernel
theorem dX9_isEvent_2 : decode cX9_isEvent 2 = .ok (.lconst 0, 1) := by decide +kernel
theorem dX9_isEvent_3 : decode cX9_isEvent 3 = .ok (.aload_n 0, 1) := by decide +kernel
theorem dX9_isEvent_4 : decode cX9_isEvent 4 = .ok (.getfield 380, 3) := by decide +kernel
theorem dX9_isEvent_7 : decode cX9_isEvent 7 = .ok (.iconst 1, 1) := by decide +kernel
theorem dX9_isEvent_8 : decode cX9_isEvent 8 = .ok (.isub, 1) := by decide +kernel
theorem dX9_isEvent_9 : decode cX9_isEvent 9 = .ok (.i2l, 1) := by decide +kernel
theorem dX9_isEvent_10 : decode cX9_isEvent 10 = .ok (.invokestatic 154, 3) := by decide +kernel
theorem dX9_isEvent_13 : decode cX9_isEvent 13 = .ok (.ireturn, 1) := by decide +kernel
theorem dX9_after_0 : decode cX9_after 0 = .ok (.aload_n 0, 1) := by decide +kernel
theorem dX9_after_1 : decode cX9_after 1 = .ok (.iload_n 1, 1) := by decide +kernel
theorem dX9_after_2 : decode cX9_after 2 = .ok (.invokevirtual 383, 3) := by decide +kernel
theorem dX9_after_5 : decode cX9_after 5 = .ok (.ifCond .eq 16, 3) := by decide +kernel
theorem dX9_after_8 : decode cX9_after 8 = .ok (.aload_n 0, 1) := by decide +kernel
theorem dX9_after_9 : decode cX9_after 9 = .ok (.iload_n 2, 1) := by decide +kernel
theorem dX9_after_10 : decode cX9_after 10 = .ok (.invokevirtual 383, 3) := by decide +kernel
theorem dX9_after_13 : decode cX9_after 13 = .ok (.ifCond .eq 8, 3) := by decide +kernel
theorem dX9_after_16 : decode cX9_after 16 = .ok (.iload_n 1, 1) := by decide +kernel
theorem dX9_after_17 : decode cX9_after 17 = .ok (.iload_n 2, 1) := by decide +kernel
theorem dX9_after_18 : decode cX9_after 18 = .ok (.if_icmp .ne 6, 3) := by decide +kernel
theorem dX9_after_21 : decode cX9_after 21 = .ok (.bipush (-2), 2) := by decide +kernel
theorem dX9_after_23 : decode cX9_after 23 = .ok (.ireturn, 1) := by decide +kernel
theorem dX9_after_24 : decode cX9_after 24 = .ok (.iload_n 3, 1) := by decide +kernel
theorem dX9_after_25 : decode cX9_after 25 = .ok (.i2l, 1) := by decide +kernel
theorem dX9_after_26 : decode cX9_after 26 = .ok (.lconst 0, 1) := by decide +kernel
theorem dX9_after_27 : decode cX9_after 27 = .ok (.ldc2_w 250, 3) := by decide +kernel
theorem dX9_after_30 : decode cX9_after 30 = .ok (.invokestatic 154, 3) := by decide +kernel
theorem dX9_after_33 : decode cX9_after 33 = .ok (.ifCond .ne 6, 3) := by decide +kernel
theorem dX9_after_36 : decode cX9_after 36 = .ok (.bipush (-3), 2) := by decide +kernel
theorem dX9_after_38 : decode cX9_after 38 = .ok (.ireturn, 1) := by decide +kernel
theorem dX9_after_39 : decode cX9_after 39 = .ok (.aload_n 0, 1) := by decide +kernel
theorem dX9_after_40 : decode cX9_after 40 = .ok (.getfield 386, 3) := by decide +kernel
theorem dX9_after_43 : decode cX9_after 43 = .ok (.bipush 12, 2) := by decide +kernel
theorem dX9_after_45 : decode cX9_after 45 = .ok (.if_icmp .ne 6, 3) := by decide +kernel
theorem dX9_after_48 : decode cX9_after 48 = .ok (.bipush (-5), 2) := by decide +kernel
theorem dX9_after_50 : decode cX9_after 50 = .ok (.ireturn, 1) := by decide +kernel
theorem dX9_after_51 : decode cX9_after 51 = .ok (.aload_n 0, 1) := by decide +kernel
theorem dX9_after_52 : decode cX9_after 52 = .ok (.getfield 101, 3) := by decide +kernel
theorem dX9_after_55 : decode cX9_after 55 = .ok (.aload_n 0, 1) := by decide +kernel
theorem dX9_after_56 : decode cX9_after 56 = .ok (.getfield 386, 3) := by decide +kernel
theorem dX9_after_59 : decode cX9_after 59 = .ok (.iload_n 1, 1) := by decide +kernel
theorem dX9_after_60 : decode cX9_after 60 = .ok (.iastore, 1) := by decide +kernel
theorem dX9_after_61 : decode cX9_after 61 = .ok (.aload_n 0, 1) := by decide +kernel
theorem dX9_after_62 : decode cX9_after 62 = .ok (.getfield 104, 3) := by decide +kernel
theorem dX9_after_65 : decode cX9_after 65 = .ok (.aload_n 0, 1) := by decide +kernel
theorem dX9_after_66 : decode cX9_after 66 = .ok (.getfield 386, 3) := by decide +kernel
theorem dX9_after_69 : decode cX9_after 69 = .ok (.iload_n 2, 1) := by decide +kernel
theorem dX9_after_70 : decode cX9_after 70 = .ok (.iastore, 1) := by decide +kernel
theorem dX9_after_71 : decode cX9_after 71 = .ok (.aload_n 0, 1) := by decide +kernel
theorem dX9_after_72 : decode cX9_after 72 = .ok (.getfield 107, 3) := by decide +kernel
theorem dX9_after_75 : decode cX9_after 75 = .ok (.aload_n 0, 1) := by decide +kernel
theorem dX9_after_76 : decode cX9_after 76 = .ok (.getfield 386, 3) := by decide +kernel
theorem dX9_after_79 : decode cX9_after 79 = .ok (.iload_n 3, 1) := by decide +kernel
theorem dX9_after_80 : decode cX9_after 80 = .ok (.iastore, 1) := by decide +kernel
theorem dX9_after_81 : decode cX9_after 81 = .ok (.aload_n 0, 1) := by decide +kernel
theorem dX9_after_82 : decode cX9_after 82 = .ok (.dup, 1) := by decide +kernel
theorem dX9_after_83 : decode cX9_after 83 = .ok (.getfield 386, 3) := by decide +kernel
theorem dX9_after_86 : decode cX9_after 86 = .ok (.iconst 1, 1) := by decide +kernel
theorem dX9_after_87 : decode cX9_after 87 = .ok (.iadd, 1) := by decide +kernel
theorem dX9_after_88 : decode cX9_after 88 = .ok (.putfield 386, 3) := by decide +kernel
theorem dX9_after_91 : decode cX9_after 91 = .ok (.aload_n 0, 1) := by decide +kernel
theorem dX9_after_92 : decode cX9_after 92 = .ok (.getfield 386, 3) := by decide +kernel
theorem dX9_after_95 : decode cX9_after 95 = .ok (.ireturn, 1) := by decide +kernel
theorem dX9_layOffs_0 : decode cX9_layOffs 0 = .ok (.iconst 0, 1) := by decide +kernel
theorem dX9_layOffs_1 : decode cX9_layOffs 1 = .ok (.istore_n 1, 1) := by decide +kernel
theorem dX9_layOffs_2 : decode cX9_layOffs 2 = .ok (.iload_n 1, 1) := by decide +kernel
theorem dX9_layOffs_3 : decode cX9_layOffs 3 = .ok (.bipush 6, 2) := by decide +kernel
theorem dX9_layOffs_5 : decode cX9_layOffs 5 = .ok (.if_icmp .ge 34, 3) := by decide +kernel
theorem dX9_layOffs_8 : decode cX9_layOffs 8 = .ok (.aload_n 0, 1) := by decide +kernel
theorem dX9_layOffs_9 : decode cX9_layOffs 9 = .ok (.getfield 146, 3) := by decide +kernel
theorem dX9_layOffs_12 : decode cX9_layOffs 12 = .ok (.iload_n 1, 1) := by decide +kernel
theorem dX9_layOffs_13 : decode cX9_layOffs 13 = .ok (.aload_n 0, 1) := by decide +kernel
theorem dX9_layOffs_14 : decode cX9_layOffs 14 = .ok (.getfield 92, 3) := by decide +kernel
theorem dX9_layOffs_17 : decode cX9_layOffs 17 = .ok (.iload_n 1, 1) := by decide +kernel
theorem dX9_layOffs_18 : decode cX9_layOffs 18 = .ok (.iaload, 1) := by decide +kernel
theorem dX9_layOffs_19 : decode cX9_layOffs 19 = .ok (.ineg, 1) := by decide +kernel
theorem dX9_layOffs_20 : decode cX9_layOffs 20 = .ok (.iastore, 1) := by decide +kernel
theorem dX9_layOffs_21 : decode cX9_layOffs 21 = .ok (.aload_n 0, 1) := by decide +kernel
theorem dX9_layOffs_22 : decode cX9_layOffs 22 = .ok (.getfield 149, 3) := by decide +kernel
theorem dX9_layOffs_25 : decode cX9_layOffs 25 = .ok (.iload_n 1, 1) := by decide +kernel
theorem dX9_layOffs_26 : decode cX9_layOffs 26 = .ok (.aload_n 0, 1) := by decide +kernel
theorem dX9_layOffs_27 : decode cX9_layOffs 27 = .ok (.getfield 92, 3) := by decide +kernel
theorem dX9_layOffs_30 : decode cX9_layOffs 30 = .ok (.iload_n 1, 1) := by decide +kernel
theorem dX9_layOffs_31 : decode cX9_layOffs 31 = .ok (.iaload, 1) := by decide +kernel
theorem dX9_layOffs_32 : decode cX9_layOffs 32 = .ok (.iastore, 1) := by decide +kernel
theorem dX9_layOffs_33 : decode cX9_layOffs 33 = .ok (.iinc 1 1, 3) := by decide +kernel
theorem dX9_layOffs_36 : decode cX9_layOffs 36 = .ok (.goto (-34), 3) := by decide +kernel
theorem dX9_layOffs_39 : decode cX9_layOffs 39 = .ok (.iconst 1, 1) := by decide +kernel
theorem dX9_layOffs_40 : decode cX9_layOffs 40 = .ok (.istore_n 1, 1) := by decide +kernel
theorem dX9_layOffs_41 : decode cX9_layOffs 41 = .ok (.iload_n 1, 1) := by decide +kernel
theorem dX9_layOffs_42 : decode cX9_layOffs 42 = .ok (.ifCond .eq 215, 3) := by decide +kernel
theorem dX9_layOffs_45 : decode cX9_layOffs 45 = .ok (.iconst 0, 1) := by decide +kernel
theorem dX9_layOffs_46 : decode cX9_layOffs 46 = .ok (.istore_n 1, 1) := by decide +kernel
theorem dX9_layOffs_47 : decode cX9_layOffs 47 = .ok (.iconst 0, 1) := by decide +kernel
theorem dX9_layOffs_48 : decode cX9_layOffs 48 = .ok (.istore_n 2, 1) := by decide +kernel
theorem dX9_layOffs_49 : decode cX9_layOffs 49 = .ok (.iload_n 2, 1) := by decide +kernel
theorem dX9_layOffs_50 : decode cX9_layOffs 50 = .ok (.aload_n 0, 1) := by decide +kernel
theorem dX9_layOffs_51 : decode cX9_layOffs 51 = .ok (.getfield 386, 3) := by decide +kernel
theorem dX9_layOffs_54 : decode cX9_layOffs 54 = .ok (.if_icmp .ge 200, 3) := by decide +kernel
theorem dX9_layOffs_57 : decode cX9_layOffs 57 = .ok (.aload_n 0, 1) := by decide +kernel
theorem dX9_layOffs_58 : decode cX9_layOffs 58 = .ok (.getfield 95, 3) := by decide +kernel
theorem dX9_layOffs_61 : decode cX9_layOffs 61 = .ok (.aload_n 0, 1) := by decide +kernel
theorem dX9_layOffs_62 : decode cX9_layOffs 62 = .ok (.getfield 101, 3) := by decide +kernel
theorem dX9_layOffs_65 : decode cX9_layOffs 65 = .ok (.iload_n 2, 1) := by decide +kernel
theorem dX9_layOffs_66 : decode cX9_layOffs 66 = .ok (.iaload, 1) := by decide +kernel
theorem dX9_layOffs_67 : decode cX9_layOffs 67 = .ok (.iaload, 1) := by decide +kernel
theorem dX9_layOffs_68 : decode cX9_layOffs 68 = .ok (.istore_n 3, 1) := by decide +kernel
theorem dX9_layOffs_69 : decode cX9_layOffs 69 = .ok (.aload_n 0, 1) := by decide +kernel
theorem dX9_layOffs_70 : decode cX9_layOffs 70 = .ok (.getfield 95, 3) := by decide +kernel
theorem dX9_layOffs_73 : decode cX9_layOffs 73 = .ok (.aload_n 0, 1) := by decide +kernel
theorem dX9_layOffs_74 : decode cX9_layOffs 74 = .ok (.getfield 104, 3) := by decide +kernel
theorem dX9_layOffs_77 : decode cX9_layOffs 77 = .ok (.iload_n 2, 1) := by decide +kernel
theorem dX9_layOffs_78 : decode cX9_layOffs 78 = .ok (.iaload, 1) := by decide +kernel
theorem dX9_layOffs_79 : decode cX9_layOffs 79 = .ok (.iaload, 1) := by decide +kernel
theorem dX9_layOffs_80 : decode cX9_layOffs 80 = .ok (.istore 4, 2) := by decide +kernel
theorem dX9_layOffs_82 : decode cX9_layOffs 82 = .ok (.aload_n 0, 1) := by decide +kernel
theorem dX9_layOffs_83 : decode cX9_layOffs 83 = .ok (.getfield 107, 3) := by decide +kernel
theorem dX9_layOffs_86 : decode cX9_layOffs 86 = .ok (.iload_n 2, 1) := by decide +kernel
theorem dX9_layOffs_87 : decode cX9_layOffs 87 = .ok (.iaload, 1) := by decide +kernel
theorem dX9_layOffs_88 : decode cX9_layOffs 88 = .ok (.aload_n 0, 1) := by decide +kernel
theorem dX9_layOffs_89 : decode cX9_layOffs 89 = .ok (.getfield 98, 3) := by decide +kernel
theorem dX9_layOffs_92 : decode cX9_layOffs 92 = .ok (.aload_n 0, 1) := by decide +kernel
theorem dX9_layOffs_93 : decode cX9_layOffs 93 = .ok (.getfield 104, 3) := by decide +kernel
theorem dX9_layOffs_96 : decode cX9_layOffs 96 = .ok (.iload_n 2, 1) := by decide +kernel
theorem dX9_layOffs_97 : decode cX9_layOffs 97 = .ok (.iaload, 1) := by decide +kernel
theorem dX9_layOffs_98 : decode cX9_layOffs 98 = .ok (.iaload, 1) := by decide +kernel
theorem dX9_layOffs_99 : decode cX9_layOffs 99 = .ok (.isub, 1) := by decide +kernel
theorem dX9_layOffs_100 : decode cX9_layOffs 100 = .ok (.aload_n 0, 1) := by decide +kernel
theorem dX9_layOffs_101 : decode cX9_layOffs 101 = .ok (.getfield 98, 3) := by decide +kernel
theorem dX9_layOffs_104 : decode cX9_layOffs 104 = .ok (.aload_n 0, 1) := by decide +kernel
theorem dX9_layOffs_105 : decode cX9_layOffs 105 = .ok (.getfield 101, 3) := by decide +kernel
theorem dX9_layOffs_108 : decode cX9_layOffs 108 = .ok (.iload_n 2, 1) := by decide +kernel
theorem dX9_layOffs_109 : decode cX9_layOffs 109 = .ok (.iaload, 1) := by decide +kernel
theorem dX9_layOffs_110 : decode cX9_layOffs 110 = .ok (.iaload, 1) := by decide +kernel
theorem dX9_layOffs_111 : decode cX9_layOffs 111 = .ok (.iadd, 1) := by decide +kernel
theorem dX9_layOffs_112 : decode cX9_layOffs 112 = .ok (.istore 5, 2) := by decide +kernel
theorem dX9_layOffs_114 : decode cX9_layOffs 114 = .ok (.iload_n 3, 1) := by decide +kernel
theorem dX9_layOffs_115 : decode cX9_layOffs 115 = .ok (.iload 4, 2) := by decide +kernel
theorem dX9_layOffs_117 : decode cX9_layOffs 117 = .ok (.if_icmp .ne 10, 3) := by decide +kernel
theorem dX9_layOffs_120 : decode cX9_layOffs 120 = .ok (.iload 5, 2) := by decide +kernel
theorem dX9_layOffs_122 : decode cX9_layOffs 122 = .ok (.ifCond .le 5, 3) := by decide +kernel
theorem dX9_layOffs_125 : decode cX9_layOffs 125 = .ok (.iconst 0, 1) := by decide +kernel
theorem dX9_layOffs_126 : decode cX9_layOffs 126 = .ok (.ireturn, 1) := by decide +kernel
theorem dX9_layOffs_127 : decode cX9_layOffs 127 = .ok (.iload_n 3, 1) := by decide +kernel
theorem dX9_layOffs_128 : decode cX9_layOffs 128 = .ok (.iload 4, 2) := by decide +kernel
theorem dX9_layOffs_130 : decode cX9_layOffs 130 = .ok (.if_icmp .eq 40, 3) := by decide +kernel
theorem dX9_layOffs_133 : decode cX9_layOffs 133 = .ok (.aload_n 0, 1) := by decide +kernel
theorem dX9_layOffs_134 : decode cX9_layOffs 134 = .ok (.getfield 146, 3) := by decide +kernel
theorem dX9_layOffs_137 : decode cX9_layOffs 137 = .ok (.iload_n 3, 1) := by decide +kernel
theorem dX9_layOffs_138 : decode cX9_layOffs 138 = .ok (.iaload, 1) := by decide +kernel
theorem dX9_layOffs_139 : decode cX9_layOffs 139 = .ok (.iload 5, 2) := by decide +kernel
theorem dX9_layOffs_141 : decode cX9_layOffs 141 = .ok (.iadd, 1) := by decide +kernel
theorem dX9_layOffs_142 : decode cX9_layOffs 142 = .ok (.aload_n 0, 1) := by decide +kernel
theorem dX9_layOffs_143 : decode cX9_layOffs 143 = .ok (.getfield 146, 3) := by decide +kernel
theorem dX9_layOffs_146 : decode cX9_layOffs 146 = .ok (.iload 4, 2) := by decide +kernel
theorem dX9_layOffs_148 : decode cX9_layOffs 148 = .ok (.iaload, 1) := by decide +kernel
theorem dX9_layOffs_149 : decode cX9_layOffs 149 = .ok (.if_icmp .le 21, 3) := by decide +kernel
theorem dX9_layOffs_152 : decode cX9_layOffs 152 = .ok (.aload_n 0, 1) := by decide +kernel
theorem dX9_layOffs_153 : decode cX9_layOffs 153 = .ok (.getfield 146, 3) := by decide +kernel
theorem dX9_layOffs_156 : decode cX9_layOffs 156 = .ok (.iload 4, 2) := by decide +kernel
theorem dX9_layOffs_158 : decode cX9_layOffs 158 = .ok (.aload_n 0, 1) := by decide +kernel
theorem dX9_layOffs_159 : decode cX9_layOffs 159 = .ok (.getfield 146, 3) := by decide +kernel
theorem dX9_layOffs_162 : decode cX9_layOffs 162 = .ok (.iload_n 3, 1) := by decide +kernel
theorem dX9_layOffs_163 : decode cX9_layOffs 163 = .ok (.iaload, 1) := by decide +kernel
theorem dX9_layOffs_164 : decode cX9_layOffs 164 = .ok (.iload 5, 2) := by decide +kernel
theorem dX9_layOffs_166 : decode cX9_layOffs 166 = .ok (.iadd, 1) := by decide +kernel
theorem dX9_layOffs_167 : decode cX9_layOffs 167 = .ok (.iastore, 1) := by decide +kernel
theorem dX9_layOffs_168 : decode cX9_layOffs 168 = .ok (.iconst 1, 1) := by decide +kernel
theorem dX9_layOffs_169 : decode cX9_layOffs 169 = .ok (.istore_n 1, 1) := by decide +kernel
theorem dX9_layOffs_170 : decode cX9_layOffs 170 = .ok (.iload_n 3, 1) := by decide +kernel
theorem dX9_layOffs_171 : decode cX9_layOffs 171 = .ok (.iload 4, 2) := by decide +kernel
theorem dX9_layOffs_173 : decode cX9_layOffs 173 = .ok (.if_icmp .eq 40, 3) := by decide +kernel
theorem dX9_layOffs_176 : decode cX9_layOffs 176 = .ok (.aload_n 0, 1) := by decide +kernel
theorem dX9_layOffs_177 : decode cX9_layOffs 177 = .ok (.getfield 149, 3) := by decide +kernel
theorem dX9_layOffs_180 : decode cX9_layOffs 180 = .ok (.iload 4, 2) := by decide +kernel
theorem dX9_layOffs_182 : decode cX9_layOffs 182 = .ok (.iaload, 1) := by decide +kernel
theorem dX9_layOffs_183 : decode cX9_layOffs 183 = .ok (.iload 5, 2) := by decide +kernel
theorem dX9_layOffs_185 : decode cX9_layOffs 185 = .ok (.isub, 1) := by decide +kernel
theorem dX9_layOffs_186 : decode cX9_layOffs 186 = .ok (.aload_n 0, 1) := by decide +kernel
theorem dX9_layOffs_187 : decode cX9_layOffs 187 = .ok (.getfield 149, 3) := by decide +kernel
theorem dX9_layOffs_190 : decode cX9_layOffs 190 = .ok (.iload_n 3, 1) := by decide +kernel
theorem dX9_layOffs_191 : decode cX9_layOffs 191 = .ok (.iaload, 1) := by decide +kernel
theorem dX9_layOffs_192 : decode cX9_layOffs 192 = .ok (.if_icmp .ge 21, 3) := by decide +kernel
theorem dX9_layOffs_195 : decode cX9_layOffs 195 = .ok (.aload_n 0, 1) := by decide +kernel
theorem dX9_layOffs_196 : decode cX9_layOffs 196 = .ok (.getfield 149, 3) := by decide +kernel
theorem dX9_layOffs_199 : decode cX9_layOffs 199 = .ok (.iload_n 3, 1) := by decide +kernel
theorem dX9_layOffs_200 : decode cX9_layOffs 200 = .ok (.aload_n 0, 1) := by decide +kernel
theorem dX9_layOffs_201 : decode cX9_layOffs 201 = .ok (.getfield 149, 3) := by decide +kernel
theorem dX9_layOffs_204 : decode cX9_layOffs 204 = .ok (.iload 4, 2) := by decide +kernel
theorem dX9_layOffs_206 : decode cX9_layOffs 206 = .ok (.iaload, 1) := by decide +kernel
theorem dX9_layOffs_207 : decode cX9_layOffs 207 = .ok (.iload 5, 2) := by decide +kernel
theorem dX9_layOffs_209 : decode cX9_layOffs 209 = .ok (.isub, 1) := by decide +kernel
theorem dX9_layOffs_210 : decode cX9_layOffs 210 = .ok (.iastore, 1) := by decide +kernel
theorem dX9_layOffs_211 : decode cX9_layOffs 211 = .ok (.iconst 1, 1) := by decide +kernel
theorem dX9_layOffs_212 : decode cX9_layOffs 212 = .ok (.istore_n 1, 1) := by decide +kernel
theorem dX9_layOffs_213 : decode cX9_layOffs 213 = .ok (.aload_n 0, 1) := by decide +kernel
theorem dX9_layOffs_214 : decode cX9_layOffs 214 = .ok (.getfield 146, 3) := by decide +kernel
theorem dX9_layOffs_217 : decode cX9_layOffs 217 = .ok (.iload 4, 2) := by decide +kernel
theorem dX9_layOffs_219 : decode cX9_layOffs 219 = .ok (.iaload, 1) := by decide +kernel
theorem dX9_layOffs_220 : decode cX9_layOffs 220 = .ok (.aload_n 0, 1) := by decide +kernel
theorem dX9_layOffs_221 : decode cX9_layOffs 221 = .ok (.getfield 92, 3) := by decide +kernel
theorem dX9_layOffs_224 : decode cX9_layOffs 224 = .ok (.iload 4, 2) := by decide +kernel
theorem dX9_layOffs_226 : decode cX9_layOffs 226 = .ok (.iaload, 1) := by decide +kernel
theorem dX9_layOffs_227 : decode cX9_layOffs 227 = .ok (.if_icmp .gt 19, 3) := by decide +kernel
theorem dX9_layOffs_230 : decode cX9_layOffs 230 = .ok (.aload_n 0, 1) := by decide +kernel
theorem dX9_layOffs_231 : decode cX9_layOffs 231 = .ok (.getfield 149, 3) := by decide +kernel
theorem dX9_layOffs_234 : decode cX9_layOffs 234 = .ok (.iload_n 3, 1) := by decide +kernel
theorem dX9_layOffs_235 : decode cX9_layOffs 235 = .ok (.iaload, 1) := by decide +kernel
theorem dX9_layOffs_236 : decode cX9_layOffs 236 = .ok (.aload_n 0, 1) := by decide +kernel
theorem dX9_layOffs_237 : decode cX9_layOffs 237 = .ok (.getfield 92, 3) := by decide +kernel
theorem dX9_layOffs_240 : decode cX9_layOffs 240 = .ok (.iload_n 3, 1) := by decide +kernel
theorem dX9_layOffs_241 : decode cX9_layOffs 241 = .ok (.iaload, 1) := by decide +kernel
theorem dX9_layOffs_242 : decode cX9_layOffs 242 = .ok (.ineg, 1) := by decide +kernel
theorem dX9_layOffs_243 : decode cX9_layOffs 243 = .ok (.if_icmp .ge 5, 3) := by decide +kernel
theorem dX9_layOffs_246 : decode cX9_layOffs 246 = .ok (.iconst 0, 1) := by decide +kernel
theorem dX9_layOffs_247 : decode cX9_layOffs 247 = .ok (.ireturn, 1) := by decide +kernel
theorem dX9_layOffs_248 : decode cX9_layOffs 248 = .ok (.iinc 2 1, 3) := by decide +kernel
theorem dX9_layOffs_251 : decode cX9_layOffs 251 = .ok (.goto (-202), 3) := by decide +kernel
theorem dX9_layOffs_254 : decode cX9_layOffs 254 = .ok (.goto (-213), 3) := by decide +kernel
theorem dX9_layOffs_257 : decode cX9_layOffs 257 = .ok (.iconst 1, 1) := by decide +kernel
theorem dX9_layOffs_258 : decode cX9_layOffs 258 = .ok (.ireturn, 1) := by decide +kernel
theorem dX9_agree_0 : decode cX9_agree 0 = .ok (.aload_n 0, 1) := by decide +kernel
theorem dX9_agree_1 : decode cX9_agree 1 = .ok (.invokevirtual 389, 3) := by decide +kernel
theorem dX9_agree_4 : decode cX9_agree 4 = .ok (.ifCond .eq 7, 3) := by decide +kernel
theorem dX9_agree_7 : decode cX9_agree 7 = .ok (.iconst 1, 1) := by decide +kernel
theorem dX9_agree_8 : decode cX9_agree 8 = .ok (.goto 4, 3) := by decide +kernel
theorem dX9_agree_11 : decode cX9_agree 11 = .ok (.iconst 0, 1) := by decide +kernel
theorem dX9_agree_12 : decode cX9_agree 12 = .ok (.ireturn, 1) := by decide +kernel
