/-! decode rows (by program) -/
theorem d_Mod_slice_0 : decode b_Mod_slice 0 = .ok (.aload_n 0, 1) := by decide +kernel
theorem d_Mod_slice_1 : decode b_Mod_slice 1 = .ok (.iload_n 1, 1) := by decide +kernel
theorem d_Mod_slice_2 : decode b_Mod_slice 2 = .ok (.invokevirtual 86, 3) := by decide +kernel
theorem d_Mod_slice_5 : decode b_Mod_slice 5 = .ok (.ifCond .eq 22, 3) := by decide +kernel
theorem d_Mod_slice_8 : decode b_Mod_slice 8 = .ok (.iload_n 2, 1) := by decide +kernel
theorem d_Mod_slice_9 : decode b_Mod_slice 9 = .ok (.ifCond .lt 18, 3) := by decide +kernel
theorem d_Mod_slice_12 : decode b_Mod_slice 12 = .ok (.iload_n 2, 1) := by decide +kernel
theorem d_Mod_slice_13 : decode b_Mod_slice 13 = .ok (.iload_n 3, 1) := by decide +kernel
theorem d_Mod_slice_14 : decode b_Mod_slice 14 = .ok (.if_icmp .gt 13, 3) := by decide +kernel
theorem d_Mod_slice_17 : decode b_Mod_slice 17 = .ok (.iload_n 3, 1) := by decide +kernel
theorem d_Mod_slice_18 : decode b_Mod_slice 18 = .ok (.aload_n 0, 1) := by decide +kernel
theorem d_Mod_slice_19 : decode b_Mod_slice 19 = .ok (.getfield 17, 3) := by decide +kernel
theorem d_Mod_slice_22 : decode b_Mod_slice 22 = .ok (.iload_n 1, 1) := by decide +kernel
theorem d_Mod_slice_23 : decode b_Mod_slice 23 = .ok (.iaload, 1) := by decide +kernel
theorem d_Mod_slice_24 : decode b_Mod_slice 24 = .ok (.if_icmp .le 5, 3) := by decide +kernel
theorem d_Mod_slice_27 : decode b_Mod_slice 27 = .ok (.iconst (-1), 1) := by decide +kernel
theorem d_Mod_slice_28 : decode b_Mod_slice 28 = .ok (.ireturn, 1) := by decide +kernel
theorem d_Mod_slice_29 : decode b_Mod_slice 29 = .ok (.aload_n 0, 1) := by decide +kernel
theorem d_Mod_slice_30 : decode b_Mod_slice 30 = .ok (.getfield 30, 3) := by decide +kernel
theorem d_Mod_slice_33 : decode b_Mod_slice 33 = .ok (.bipush 40, 2) := by decide +kernel
theorem d_Mod_slice_35 : decode b_Mod_slice 35 = .ok (.if_icmp .ne 6, 3) := by decide +kernel
theorem d_Mod_slice_38 : decode b_Mod_slice 38 = .ok (.bipush (-2), 2) := by decide +kernel
theorem d_Mod_slice_40 : decode b_Mod_slice 40 = .ok (.ireturn, 1) := by decide +kernel
theorem d_Mod_slice_41 : decode b_Mod_slice 41 = .ok (.aload_n 0, 1) := by decide +kernel
theorem d_Mod_slice_42 : decode b_Mod_slice 42 = .ok (.iconst 0, 1) := by decide +kernel
theorem d_Mod_slice_43 : decode b_Mod_slice 43 = .ok (.iload_n 1, 1) := by decide +kernel
theorem d_Mod_slice_44 : decode b_Mod_slice 44 = .ok (.invokevirtual 89, 3) := by decide +kernel
theorem d_Mod_slice_47 : decode b_Mod_slice 47 = .ok (.aload_n 0, 1) := by decide +kernel
theorem d_Mod_slice_48 : decode b_Mod_slice 48 = .ok (.iconst 0, 1) := by decide +kernel
theorem d_Mod_slice_49 : decode b_Mod_slice 49 = .ok (.iload_n 2, 1) := by decide +kernel
theorem d_Mod_slice_50 : decode b_Mod_slice 50 = .ok (.iload_n 3, 1) := by decide +kernel
theorem d_Mod_slice_51 : decode b_Mod_slice 51 = .ok (.invokevirtual 107, 3) := by decide +kernel
theorem d_Mod_slice_54 : decode b_Mod_slice 54 = .ok (.aload_n 0, 1) := by decide +kernel
theorem d_Mod_slice_55 : decode b_Mod_slice 55 = .ok (.iconst 0, 1) := by decide +kernel
theorem d_Mod_slice_56 : decode b_Mod_slice 56 = .ok (.invokevirtual 96, 3) := by decide +kernel
theorem d_Mod_slice_59 : decode b_Mod_slice 59 = .ok (.ireturn, 1) := by decide +kernel
theorem d_Mod_cut_0 : decode b_Mod_cut 0 = .ok (.iconst 0, 1) := by decide +kernel
theorem d_Mod_cut_1 : decode b_Mod_cut 1 = .ok (.istore 4, 2) := by decide +kernel
theorem d_Mod_cut_3 : decode b_Mod_cut 3 = .ok (.iconst 0, 1) := by decide +kernel
theorem d_Mod_cut_4 : decode b_Mod_cut 4 = .ok (.istore 5, 2) := by decide +kernel
theorem d_Mod_cut_6 : decode b_Mod_cut 6 = .ok (.iload 5, 2) := by decide +kernel
theorem d_Mod_cut_8 : decode b_Mod_cut 8 = .ok (.aload_n 0, 1) := by decide +kernel
theorem d_Mod_cut_9 : decode b_Mod_cut 9 = .ok (.getfield 40, 3) := by decide +kernel
theorem d_Mod_cut_12 : decode b_Mod_cut 12 = .ok (.bipush 8, 2) := by decide +kernel
theorem d_Mod_cut_14 : decode b_Mod_cut 14 = .ok (.iload_n 1, 1) := by decide +kernel
theorem d_Mod_cut_15 : decode b_Mod_cut 15 = .ok (.imul, 1) := by decide +kernel
theorem d_Mod_cut_16 : decode b_Mod_cut 16 = .ok (.iconst 1, 1) := by decide +kernel
theorem d_Mod_cut_17 : decode b_Mod_cut 17 = .ok (.iadd, 1) := by decide +kernel
theorem d_Mod_cut_18 : decode b_Mod_cut 18 = .ok (.iaload, 1) := by decide +kernel
theorem d_Mod_cut_19 : decode b_Mod_cut 19 = .ok (.if_icmp .ge 81, 3) := by decide +kernel
theorem d_Mod_cut_22 : decode b_Mod_cut 22 = .ok (.iload 4, 2) := by decide +kernel
theorem d_Mod_cut_24 : decode b_Mod_cut 24 = .ok (.aload_n 0, 1) := by decide +kernel
theorem d_Mod_cut_25 : decode b_Mod_cut 25 = .ok (.getfield 37, 3) := by decide +kernel
theorem d_Mod_cut_28 : decode b_Mod_cut 28 = .ok (.iload_n 1, 1) := by decide +kernel
theorem d_Mod_cut_29 : decode b_Mod_cut 29 = .ok (.iconst 1, 1) := by decide +kernel
theorem d_Mod_cut_30 : decode b_Mod_cut 30 = .ok (.iload 5, 2) := by decide +kernel
theorem d_Mod_cut_32 : decode b_Mod_cut 32 = .ok (.invokestatic 59, 3) := by decide +kernel
theorem d_Mod_cut_35 : decode b_Mod_cut 35 = .ok (.iaload, 1) := by decide +kernel
theorem d_Mod_cut_36 : decode b_Mod_cut 36 = .ok (.iadd, 1) := by decide +kernel
theorem d_Mod_cut_37 : decode b_Mod_cut 37 = .ok (.istore 6, 2) := by decide +kernel
theorem d_Mod_cut_39 : decode b_Mod_cut 39 = .ok (.iload 4, 2) := by decide +kernel
theorem d_Mod_cut_41 : decode b_Mod_cut 41 = .ok (.iload_n 2, 1) := by decide +kernel
theorem d_Mod_cut_42 : decode b_Mod_cut 42 = .ok (.if_icmp .le 8, 3) := by decide +kernel
theorem d_Mod_cut_45 : decode b_Mod_cut 45 = .ok (.iload 4, 2) := by decide +kernel
theorem d_Mod_cut_47 : decode b_Mod_cut 47 = .ok (.goto 4, 3) := by decide +kernel
theorem d_Mod_cut_50 : decode b_Mod_cut 50 = .ok (.iload_n 2, 1) := by decide +kernel
theorem d_Mod_cut_51 : decode b_Mod_cut 51 = .ok (.istore 7, 2) := by decide +kernel
theorem d_Mod_cut_53 : decode b_Mod_cut 53 = .ok (.iload 6, 2) := by decide +kernel
theorem d_Mod_cut_55 : decode b_Mod_cut 55 = .ok (.iload_n 3, 1) := by decide +kernel
theorem d_Mod_cut_56 : decode b_Mod_cut 56 = .ok (.if_icmp .ge 8, 3) := by decide +kernel
theorem d_Mod_cut_59 : decode b_Mod_cut 59 = .ok (.iload 6, 2) := by decide +kernel
theorem d_Mod_cut_61 : decode b_Mod_cut 61 = .ok (.goto 4, 3) := by decide +kernel
theorem d_Mod_cut_64 : decode b_Mod_cut 64 = .ok (.iload_n 3, 1) := by decide +kernel
theorem d_Mod_cut_65 : decode b_Mod_cut 65 = .ok (.istore 8, 2) := by decide +kernel
theorem d_Mod_cut_67 : decode b_Mod_cut 67 = .ok (.aload_n 0, 1) := by decide +kernel
theorem d_Mod_cut_68 : decode b_Mod_cut 68 = .ok (.getfield 49, 3) := by decide +kernel
theorem d_Mod_cut_71 : decode b_Mod_cut 71 = .ok (.iload 5, 2) := by decide +kernel
theorem d_Mod_cut_73 : decode b_Mod_cut 73 = .ok (.iload 8, 2) := by decide +kernel
theorem d_Mod_cut_75 : decode b_Mod_cut 75 = .ok (.iload 7, 2) := by decide +kernel
theorem d_Mod_cut_77 : decode b_Mod_cut 77 = .ok (.if_icmp .le 11, 3) := by decide +kernel
theorem d_Mod_cut_80 : decode b_Mod_cut 80 = .ok (.iload 8, 2) := by decide +kernel
theorem d_Mod_cut_82 : decode b_Mod_cut 82 = .ok (.iload 7, 2) := by decide +kernel
theorem d_Mod_cut_84 : decode b_Mod_cut 84 = .ok (.isub, 1) := by decide +kernel
theorem d_Mod_cut_85 : decode b_Mod_cut 85 = .ok (.goto 4, 3) := by decide +kernel
theorem d_Mod_cut_88 : decode b_Mod_cut 88 = .ok (.iconst 0, 1) := by decide +kernel
theorem d_Mod_cut_89 : decode b_Mod_cut 89 = .ok (.iastore, 1) := by decide +kernel
theorem d_Mod_cut_90 : decode b_Mod_cut 90 = .ok (.iload 6, 2) := by decide +kernel
theorem d_Mod_cut_92 : decode b_Mod_cut 92 = .ok (.istore 4, 2) := by decide +kernel
theorem d_Mod_cut_94 : decode b_Mod_cut 94 = .ok (.iinc 5 1, 3) := by decide +kernel
theorem d_Mod_cut_97 : decode b_Mod_cut 97 = .ok (.goto (-91), 3) := by decide +kernel
theorem d_Mod_cut_100 : decode b_Mod_cut 100 = .ok (.iconst 1, 1) := by decide +kernel
theorem d_Mod_cut_101 : decode b_Mod_cut 101 = .ok (.istore 5, 2) := by decide +kernel
theorem d_Mod_cut_103 : decode b_Mod_cut 103 = .ok (.iload 5, 2) := by decide +kernel
theorem d_Mod_cut_105 : decode b_Mod_cut 105 = .ok (.aload_n 0, 1) := by decide +kernel
theorem d_Mod_cut_106 : decode b_Mod_cut 106 = .ok (.getfield 46, 3) := by decide +kernel
theorem d_Mod_cut_109 : decode b_Mod_cut 109 = .ok (.iload_n 1, 1) := by decide +kernel
theorem d_Mod_cut_110 : decode b_Mod_cut 110 = .ok (.iaload, 1) := by decide +kernel
theorem d_Mod_cut_111 : decode b_Mod_cut 111 = .ok (.if_icmp .gt 230, 3) := by decide +kernel
theorem d_Mod_cut_114 : decode b_Mod_cut 114 = .ok (.iload 5, 2) := by decide +kernel
theorem d_Mod_cut_116 : decode b_Mod_cut 116 = .ok (.aload_n 0, 1) := by decide +kernel
theorem d_Mod_cut_117 : decode b_Mod_cut 117 = .ok (.getfield 46, 3) := by decide +kernel
theorem d_Mod_cut_120 : decode b_Mod_cut 120 = .ok (.iload_n 1, 1) := by decide +kernel
theorem d_Mod_cut_121 : decode b_Mod_cut 121 = .ok (.iaload, 1) := by decide +kernel
theorem d_Mod_cut_122 : decode b_Mod_cut 122 = .ok (.if_icmp .ge 20, 3) := by decide +kernel
theorem d_Mod_cut_125 : decode b_Mod_cut 125 = .ok (.aload_n 0, 1) := by decide +kernel
theorem d_Mod_cut_126 : decode b_Mod_cut 126 = .ok (.getfield 40, 3) := by decide +kernel
theorem d_Mod_cut_129 : decode b_Mod_cut 129 = .ok (.bipush 8, 2) := by decide +kernel
theorem d_Mod_cut_131 : decode b_Mod_cut 131 = .ok (.iload_n 1, 1) := by decide +kernel
theorem d_Mod_cut_132 : decode b_Mod_cut 132 = .ok (.imul, 1) := by decide +kernel
theorem d_Mod_cut_133 : decode b_Mod_cut 133 = .ok (.iload 5, 2) := by decide +kernel
theorem d_Mod_cut_135 : decode b_Mod_cut 135 = .ok (.iadd, 1) := by decide +kernel
theorem d_Mod_cut_136 : decode b_Mod_cut 136 = .ok (.iconst 1, 1) := by decide +kernel
theorem d_Mod_cut_137 : decode b_Mod_cut 137 = .ok (.iadd, 1) := by decide +kernel
theorem d_Mod_cut_138 : decode b_Mod_cut 138 = .ok (.iaload, 1) := by decide +kernel
theorem d_Mod_cut_139 : decode b_Mod_cut 139 = .ok (.goto 4, 3) := by decide +kernel
theorem d_Mod_cut_142 : decode b_Mod_cut 142 = .ok (.iconst 0, 1) := by decide +kernel
theorem d_Mod_cut_143 : decode b_Mod_cut 143 = .ok (.istore 6, 2) := by decide +kernel
theorem d_Mod_cut_145 : decode b_Mod_cut 145 = .ok (.iconst 0, 1) := by decide +kernel
theorem d_Mod_cut_146 : decode b_Mod_cut 146 = .ok (.istore 7, 2) := by decide +kernel
theorem d_Mod_cut_148 : decode b_Mod_cut 148 = .ok (.iconst 0, 1) := by decide +kernel
theorem d_Mod_cut_149 : decode b_Mod_cut 149 = .ok (.istore 8, 2) := by decide +kernel
theorem d_Mod_cut_151 : decode b_Mod_cut 151 = .ok (.iload 8, 2) := by decide +kernel
theorem d_Mod_cut_153 : decode b_Mod_cut 153 = .ok (.iload 6, 2) := by decide +kernel
theorem d_Mod_cut_155 : decode b_Mod_cut 155 = .ok (.if_icmp .ge 74, 3) := by decide +kernel
theorem d_Mod_cut_158 : decode b_Mod_cut 158 = .ok (.aload_n 0, 1) := by decide +kernel
theorem d_Mod_cut_159 : decode b_Mod_cut 159 = .ok (.getfield 52, 3) := by decide +kernel
theorem d_Mod_cut_162 : decode b_Mod_cut 162 = .ok (.iload 8, 2) := by decide +kernel
theorem d_Mod_cut_164 : decode b_Mod_cut 164 = .ok (.iconst 0, 1) := by decide +kernel
theorem d_Mod_cut_165 : decode b_Mod_cut 165 = .ok (.iastore, 1) := by decide +kernel
theorem d_Mod_cut_166 : decode b_Mod_cut 166 = .ok (.iconst 0, 1) := by decide +kernel
theorem d_Mod_cut_167 : decode b_Mod_cut 167 = .ok (.istore 9, 2) := by decide +kernel
theorem d_Mod_cut_169 : decode b_Mod_cut 169 = .ok (.iload 9, 2) := by decide +kernel
theorem d_Mod_cut_171 : decode b_Mod_cut 171 = .ok (.aload_n 0, 1) := by decide +kernel
theorem d_Mod_cut_172 : decode b_Mod_cut 172 = .ok (.getfield 37, 3) := by decide +kernel
theorem d_Mod_cut_175 : decode b_Mod_cut 175 = .ok (.iload_n 1, 1) := by decide +kernel
theorem d_Mod_cut_176 : decode b_Mod_cut 176 = .ok (.iload 5, 2) := by decide +kernel
theorem d_Mod_cut_178 : decode b_Mod_cut 178 = .ok (.iconst 1, 1) := by decide +kernel
theorem d_Mod_cut_179 : decode b_Mod_cut 179 = .ok (.iadd, 1) := by decide +kernel
theorem d_Mod_cut_180 : decode b_Mod_cut 180 = .ok (.iload 8, 2) := by decide +kernel
theorem d_Mod_cut_182 : decode b_Mod_cut 182 = .ok (.invokestatic 59, 3) := by decide +kernel
theorem d_Mod_cut_185 : decode b_Mod_cut 185 = .ok (.iaload, 1) := by decide +kernel
theorem d_Mod_cut_186 : decode b_Mod_cut 186 = .ok (.if_icmp .ge 37, 3) := by decide +kernel
theorem d_Mod_cut_189 : decode b_Mod_cut 189 = .ok (.aload_n 0, 1) := by decide +kernel
theorem d_Mod_cut_190 : decode b_Mod_cut 190 = .ok (.getfield 52, 3) := by decide +kernel
theorem d_Mod_cut_193 : decode b_Mod_cut 193 = .ok (.iload 8, 2) := by decide +kernel
theorem d_Mod_cut_195 : decode b_Mod_cut 195 = .ok (.dup2, 1) := by decide +kernel
theorem d_Mod_cut_196 : decode b_Mod_cut 196 = .ok (.iaload, 1) := by decide +kernel
theorem d_Mod_cut_197 : decode b_Mod_cut 197 = .ok (.aload_n 0, 1) := by decide +kernel
theorem d_Mod_cut_198 : decode b_Mod_cut 198 = .ok (.getfield 49, 3) := by decide +kernel
theorem d_Mod_cut_201 : decode b_Mod_cut 201 = .ok (.iload 7, 2) := by decide +kernel
theorem d_Mod_cut_203 : decode b_Mod_cut 203 = .ok (.iaload, 1) := by decide +kernel
theorem d_Mod_cut_204 : decode b_Mod_cut 204 = .ok (.ifCond .le 7, 3) := by decide +kernel
theorem d_Mod_cut_207 : decode b_Mod_cut 207 = .ok (.iconst 1, 1) := by decide +kernel
theorem d_Mod_cut_208 : decode b_Mod_cut 208 = .ok (.goto 4, 3) := by decide +kernel
theorem d_Mod_cut_211 : decode b_Mod_cut 211 = .ok (.iconst 0, 1) := by decide +kernel
theorem d_Mod_cut_212 : decode b_Mod_cut 212 = .ok (.iadd, 1) := by decide +kernel
theorem d_Mod_cut_213 : decode b_Mod_cut 213 = .ok (.iastore, 1) := by decide +kernel
theorem d_Mod_cut_214 : decode b_Mod_cut 214 = .ok (.iinc 7 1, 3) := by decide +kernel
theorem d_Mod_cut_217 : decode b_Mod_cut 217 = .ok (.iinc 9 1, 3) := by decide +kernel
theorem d_Mod_cut_220 : decode b_Mod_cut 220 = .ok (.goto (-51), 3) := by decide +kernel
theorem d_Mod_cut_223 : decode b_Mod_cut 223 = .ok (.iinc 8 1, 3) := by decide +kernel
theorem d_Mod_cut_226 : decode b_Mod_cut 226 = .ok (.goto (-75), 3) := by decide +kernel
theorem d_Mod_cut_229 : decode b_Mod_cut 229 = .ok (.iconst 0, 1) := by decide +kernel
theorem d_Mod_cut_230 : decode b_Mod_cut 230 = .ok (.istore 8, 2) := by decide +kernel
theorem d_Mod_cut_232 : decode b_Mod_cut 232 = .ok (.iconst 0, 1) := by decide +kernel
theorem d_Mod_cut_233 : decode b_Mod_cut 233 = .ok (.istore 9, 2) := by decide +kernel
theorem d_Mod_cut_235 : decode b_Mod_cut 235 = .ok (.iload 9, 2) := by decide +kernel
theorem d_Mod_cut_237 : decode b_Mod_cut 237 = .ok (.aload_n 0, 1) := by decide +kernel
theorem d_Mod_cut_238 : decode b_Mod_cut 238 = .ok (.getfield 40, 3) := by decide +kernel
theorem d_Mod_cut_241 : decode b_Mod_cut 241 = .ok (.bipush 8, 2) := by decide +kernel
theorem d_Mod_cut_243 : decode b_Mod_cut 243 = .ok (.iload_n 1, 1) := by decide +kernel
theorem d_Mod_cut_244 : decode b_Mod_cut 244 = .ok (.imul, 1) := by decide +kernel
theorem d_Mod_cut_245 : decode b_Mod_cut 245 = .ok (.iload 5, 2) := by decide +kernel
theorem d_Mod_cut_247 : decode b_Mod_cut 247 = .ok (.iadd, 1) := by decide +kernel
theorem d_Mod_cut_248 : decode b_Mod_cut 248 = .ok (.iaload, 1) := by decide +kernel
theorem d_Mod_cut_249 : decode b_Mod_cut 249 = .ok (.if_icmp .ge 42, 3) := by decide +kernel
theorem d_Mod_cut_252 : decode b_Mod_cut 252 = .ok (.aload_n 0, 1) := by decide +kernel
theorem d_Mod_cut_253 : decode b_Mod_cut 253 = .ok (.getfield 49, 3) := by decide +kernel
theorem d_Mod_cut_256 : decode b_Mod_cut 256 = .ok (.iload 9, 2) := by decide +kernel
theorem d_Mod_cut_258 : decode b_Mod_cut 258 = .ok (.iaload, 1) := by decide +kernel
theorem d_Mod_cut_259 : decode b_Mod_cut 259 = .ok (.ifCond .le 26, 3) := by decide +kernel
theorem d_Mod_cut_262 : decode b_Mod_cut 262 = .ok (.aload_n 0, 1) := by decide +kernel
theorem d_Mod_cut_263 : decode b_Mod_cut 263 = .ok (.getfield 37, 3) := by decide +kernel
theorem d_Mod_cut_266 : decode b_Mod_cut 266 = .ok (.iload_n 1, 1) := by decide +kernel
theorem d_Mod_cut_267 : decode b_Mod_cut 267 = .ok (.iload 5, 2) := by decide +kernel
theorem d_Mod_cut_269 : decode b_Mod_cut 269 = .ok (.iload 8, 2) := by decide +kernel
theorem d_Mod_cut_271 : decode b_Mod_cut 271 = .ok (.invokestatic 59, 3) := by decide +kernel
theorem d_Mod_cut_274 : decode b_Mod_cut 274 = .ok (.aload_n 0, 1) := by decide +kernel
theorem d_Mod_cut_275 : decode b_Mod_cut 275 = .ok (.getfield 49, 3) := by decide +kernel
theorem d_Mod_cut_278 : decode b_Mod_cut 278 = .ok (.iload 9, 2) := by decide +kernel
theorem d_Mod_cut_280 : decode b_Mod_cut 280 = .ok (.iaload, 1) := by decide +kernel
theorem d_Mod_cut_281 : decode b_Mod_cut 281 = .ok (.iastore, 1) := by decide +kernel
theorem d_Mod_cut_282 : decode b_Mod_cut 282 = .ok (.iinc 8 1, 3) := by decide +kernel
theorem d_Mod_cut_285 : decode b_Mod_cut 285 = .ok (.iinc 9 1, 3) := by decide +kernel
theorem d_Mod_cut_288 : decode b_Mod_cut 288 = .ok (.goto (-53), 3) := by decide +kernel
theorem d_Mod_cut_291 : decode b_Mod_cut 291 = .ok (.aload_n 0, 1) := by decide +kernel
theorem d_Mod_cut_292 : decode b_Mod_cut 292 = .ok (.getfield 40, 3) := by decide +kernel
theorem d_Mod_cut_295 : decode b_Mod_cut 295 = .ok (.bipush 8, 2) := by decide +kernel
theorem d_Mod_cut_297 : decode b_Mod_cut 297 = .ok (.iload_n 1, 1) := by decide +kernel
theorem d_Mod_cut_298 : decode b_Mod_cut 298 = .ok (.imul, 1) := by decide +kernel
theorem d_Mod_cut_299 : decode b_Mod_cut 299 = .ok (.iload 5, 2) := by decide +kernel
theorem d_Mod_cut_301 : decode b_Mod_cut 301 = .ok (.iadd, 1) := by decide +kernel
theorem d_Mod_cut_302 : decode b_Mod_cut 302 = .ok (.iload 8, 2) := by decide +kernel
theorem d_Mod_cut_304 : decode b_Mod_cut 304 = .ok (.iastore, 1) := by decide +kernel
theorem d_Mod_cut_305 : decode b_Mod_cut 305 = .ok (.iconst 0, 1) := by decide +kernel
theorem d_Mod_cut_306 : decode b_Mod_cut 306 = .ok (.istore 9, 2) := by decide +kernel
theorem d_Mod_cut_308 : decode b_Mod_cut 308 = .ok (.iload 9, 2) := by decide +kernel
theorem d_Mod_cut_310 : decode b_Mod_cut 310 = .ok (.iload 6, 2) := by decide +kernel
theorem d_Mod_cut_312 : decode b_Mod_cut 312 = .ok (.if_icmp .ge 23, 3) := by decide +kernel
theorem d_Mod_cut_315 : decode b_Mod_cut 315 = .ok (.aload_n 0, 1) := by decide +kernel
theorem d_Mod_cut_316 : decode b_Mod_cut 316 = .ok (.getfield 49, 3) := by decide +kernel
theorem d_Mod_cut_319 : decode b_Mod_cut 319 = .ok (.iload 9, 2) := by decide +kernel
theorem d_Mod_cut_321 : decode b_Mod_cut 321 = .ok (.aload_n 0, 1) := by decide +kernel
theorem d_Mod_cut_322 : decode b_Mod_cut 322 = .ok (.getfield 52, 3) := by decide +kernel
theorem d_Mod_cut_325 : decode b_Mod_cut 325 = .ok (.iload 9, 2) := by decide +kernel
theorem d_Mod_cut_327 : decode b_Mod_cut 327 = .ok (.iaload, 1) := by decide +kernel
theorem d_Mod_cut_328 : decode b_Mod_cut 328 = .ok (.iastore, 1) := by decide +kernel
theorem d_Mod_cut_329 : decode b_Mod_cut 329 = .ok (.iinc 9 1, 3) := by decide +kernel
theorem d_Mod_cut_332 : decode b_Mod_cut 332 = .ok (.goto (-24), 3) := by decide +kernel
theorem d_Mod_cut_335 : decode b_Mod_cut 335 = .ok (.iinc 5 1, 3) := by decide +kernel
theorem d_Mod_cut_338 : decode b_Mod_cut 338 = .ok (.goto (-235), 3) := by decide +kernel
theorem d_Mod_cut_341 : decode b_Mod_cut 341 = .ok (.iload_n 2, 1) := by decide +kernel
theorem d_Mod_cut_342 : decode b_Mod_cut 342 = .ok (.istore 5, 2) := by decide +kernel
theorem d_Mod_cut_344 : decode b_Mod_cut 344 = .ok (.iload 5, 2) := by decide +kernel
theorem d_Mod_cut_346 : decode b_Mod_cut 346 = .ok (.iload_n 3, 1) := by decide +kernel
theorem d_Mod_cut_347 : decode b_Mod_cut 347 = .ok (.if_icmp .ge 35, 3) := by decide +kernel
theorem d_Mod_cut_350 : decode b_Mod_cut 350 = .ok (.aload_n 0, 1) := by decide +kernel
theorem d_Mod_cut_351 : decode b_Mod_cut 351 = .ok (.getfield 34, 3) := by decide +kernel
theorem d_Mod_cut_354 : decode b_Mod_cut 354 = .ok (.bipush 80, 2) := by decide +kernel
theorem d_Mod_cut_356 : decode b_Mod_cut 356 = .ok (.iload_n 1, 1) := by decide +kernel
theorem d_Mod_cut_357 : decode b_Mod_cut 357 = .ok (.imul, 1) := by decide +kernel
theorem d_Mod_cut_358 : decode b_Mod_cut 358 = .ok (.iload 5, 2) := by decide +kernel
theorem d_Mod_cut_360 : decode b_Mod_cut 360 = .ok (.iadd, 1) := by decide +kernel
theorem d_Mod_cut_361 : decode b_Mod_cut 361 = .ok (.iload_n 2, 1) := by decide +kernel
theorem d_Mod_cut_362 : decode b_Mod_cut 362 = .ok (.isub, 1) := by decide +kernel
theorem d_Mod_cut_363 : decode b_Mod_cut 363 = .ok (.aload_n 0, 1) := by decide +kernel
theorem d_Mod_cut_364 : decode b_Mod_cut 364 = .ok (.getfield 34, 3) := by decide +kernel
theorem d_Mod_cut_367 : decode b_Mod_cut 367 = .ok (.bipush 80, 2) := by decide +kernel
theorem d_Mod_cut_369 : decode b_Mod_cut 369 = .ok (.iload_n 1, 1) := by decide +kernel
theorem d_Mod_cut_370 : decode b_Mod_cut 370 = .ok (.imul, 1) := by decide +kernel
theorem d_Mod_cut_371 : decode b_Mod_cut 371 = .ok (.iload 5, 2) := by decide +kernel
theorem d_Mod_cut_373 : decode b_Mod_cut 373 = .ok (.iadd, 1) := by decide +kernel
theorem d_Mod_cut_374 : decode b_Mod_cut 374 = .ok (.iaload, 1) := by decide +kernel
theorem d_Mod_cut_375 : decode b_Mod_cut 375 = .ok (.iastore, 1) := by decide +kernel
theorem d_Mod_cut_376 : decode b_Mod_cut 376 = .ok (.iinc 5 1, 3) := by decide +kernel
theorem d_Mod_cut_379 : decode b_Mod_cut 379 = .ok (.goto (-35), 3) := by decide +kernel
theorem d_Mod_cut_382 : decode b_Mod_cut 382 = .ok (.aload_n 0, 1) := by decide +kernel
theorem d_Mod_cut_383 : decode b_Mod_cut 383 = .ok (.getfield 43, 3) := by decide +kernel
theorem d_Mod_cut_386 : decode b_Mod_cut 386 = .ok (.iload_n 1, 1) := by decide +kernel
theorem d_Mod_cut_387 : decode b_Mod_cut 387 = .ok (.iload_n 3, 1) := by decide +kernel
theorem d_Mod_cut_388 : decode b_Mod_cut 388 = .ok (.iload_n 2, 1) := by decide +kernel
theorem d_Mod_cut_389 : decode b_Mod_cut 389 = .ok (.isub, 1) := by decide +kernel
theorem d_Mod_cut_390 : decode b_Mod_cut 390 = .ok (.iastore, 1) := by decide +kernel
theorem d_Mod_cut_391 : decode b_Mod_cut 391 = .ok (.aload_n 0, 1) := by decide +kernel
theorem d_Mod_cut_392 : decode b_Mod_cut 392 = .ok (.iload_n 1, 1) := by decide +kernel
theorem d_Mod_cut_393 : decode b_Mod_cut 393 = .ok (.invokevirtual 71, 3) := by decide +kernel
theorem d_Mod_cut_396 : decode b_Mod_cut 396 = .ok (.return_, 1) := by decide +kernel
theorem d_Mod_lower_0 : decode b_Mod_lower 0 = .ok (.aload_n 0, 1) := by decide +kernel
theorem d_Mod_lower_1 : decode b_Mod_lower 1 = .ok (.getfield 43, 3) := by decide +kernel
theorem d_Mod_lower_4 : decode b_Mod_lower 4 = .ok (.iload_n 1, 1) := by decide +kernel
theorem d_Mod_lower_5 : decode b_Mod_lower 5 = .ok (.iaload, 1) := by decide +kernel
theorem d_Mod_lower_6 : decode b_Mod_lower 6 = .ok (.ifCond .ne 10, 3) := by decide +kernel
theorem d_Mod_lower_9 : decode b_Mod_lower 9 = .ok (.aload_n 0, 1) := by decide +kernel
theorem d_Mod_lower_10 : decode b_Mod_lower 10 = .ok (.getfield 46, 3) := by decide +kernel
theorem d_Mod_lower_13 : decode b_Mod_lower 13 = .ok (.iload_n 1, 1) := by decide +kernel
theorem d_Mod_lower_14 : decode b_Mod_lower 14 = .ok (.iconst 0, 1) := by decide +kernel
theorem d_Mod_lower_15 : decode b_Mod_lower 15 = .ok (.iastore, 1) := by decide +kernel
theorem d_Mod_lower_16 : decode b_Mod_lower 16 = .ok (.aload_n 0, 1) := by decide +kernel
theorem d_Mod_lower_17 : decode b_Mod_lower 17 = .ok (.getfield 46, 3) := by decide +kernel
theorem d_Mod_lower_20 : decode b_Mod_lower 20 = .ok (.iload_n 1, 1) := by decide +kernel
theorem d_Mod_lower_21 : decode b_Mod_lower 21 = .ok (.iaload, 1) := by decide +kernel
theorem d_Mod_lower_22 : decode b_Mod_lower 22 = .ok (.iconst 1, 1) := by decide +kernel
theorem d_Mod_lower_23 : decode b_Mod_lower 23 = .ok (.if_icmp .le 53, 3) := by decide +kernel
theorem d_Mod_lower_26 : decode b_Mod_lower 26 = .ok (.aload_n 0, 1) := by decide +kernel
theorem d_Mod_lower_27 : decode b_Mod_lower 27 = .ok (.getfield 37, 3) := by decide +kernel
theorem d_Mod_lower_30 : decode b_Mod_lower 30 = .ok (.iload_n 1, 1) := by decide +kernel
theorem d_Mod_lower_31 : decode b_Mod_lower 31 = .ok (.aload_n 0, 1) := by decide +kernel
theorem d_Mod_lower_32 : decode b_Mod_lower 32 = .ok (.getfield 46, 3) := by decide +kernel
theorem d_Mod_lower_35 : decode b_Mod_lower 35 = .ok (.iload_n 1, 1) := by decide +kernel
theorem d_Mod_lower_36 : decode b_Mod_lower 36 = .ok (.iaload, 1) := by decide +kernel
theorem d_Mod_lower_37 : decode b_Mod_lower 37 = .ok (.iconst 0, 1) := by decide +kernel
theorem d_Mod_lower_38 : decode b_Mod_lower 38 = .ok (.invokestatic 59, 3) := by decide +kernel
theorem d_Mod_lower_41 : decode b_Mod_lower 41 = .ok (.iaload, 1) := by decide +kernel
theorem d_Mod_lower_42 : decode b_Mod_lower 42 = .ok (.iconst 1, 1) := by decide +kernel
theorem d_Mod_lower_43 : decode b_Mod_lower 43 = .ok (.if_icmp .ne 33, 3) := by decide +kernel
theorem d_Mod_lower_46 : decode b_Mod_lower 46 = .ok (.aload_n 0, 1) := by decide +kernel
theorem d_Mod_lower_47 : decode b_Mod_lower 47 = .ok (.getfield 40, 3) := by decide +kernel
theorem d_Mod_lower_50 : decode b_Mod_lower 50 = .ok (.bipush 8, 2) := by decide +kernel
theorem d_Mod_lower_52 : decode b_Mod_lower 52 = .ok (.iload_n 1, 1) := by decide +kernel
theorem d_Mod_lower_53 : decode b_Mod_lower 53 = .ok (.imul, 1) := by decide +kernel
theorem d_Mod_lower_54 : decode b_Mod_lower 54 = .ok (.aload_n 0, 1) := by decide +kernel
theorem d_Mod_lower_55 : decode b_Mod_lower 55 = .ok (.getfield 46, 3) := by decide +kernel
theorem d_Mod_lower_58 : decode b_Mod_lower 58 = .ok (.iload_n 1, 1) := by decide +kernel
theorem d_Mod_lower_59 : decode b_Mod_lower 59 = .ok (.iaload, 1) := by decide +kernel
theorem d_Mod_lower_60 : decode b_Mod_lower 60 = .ok (.iadd, 1) := by decide +kernel
theorem d_Mod_lower_61 : decode b_Mod_lower 61 = .ok (.iconst 0, 1) := by decide +kernel
theorem d_Mod_lower_62 : decode b_Mod_lower 62 = .ok (.iastore, 1) := by decide +kernel
theorem d_Mod_lower_63 : decode b_Mod_lower 63 = .ok (.aload_n 0, 1) := by decide +kernel
theorem d_Mod_lower_64 : decode b_Mod_lower 64 = .ok (.getfield 46, 3) := by decide +kernel
theorem d_Mod_lower_67 : decode b_Mod_lower 67 = .ok (.iload_n 1, 1) := by decide +kernel
theorem d_Mod_lower_68 : decode b_Mod_lower 68 = .ok (.dup2, 1) := by decide +kernel
theorem d_Mod_lower_69 : decode b_Mod_lower 69 = .ok (.iaload, 1) := by decide +kernel
theorem d_Mod_lower_70 : decode b_Mod_lower 70 = .ok (.iconst 1, 1) := by decide +kernel
theorem d_Mod_lower_71 : decode b_Mod_lower 71 = .ok (.isub, 1) := by decide +kernel
theorem d_Mod_lower_72 : decode b_Mod_lower 72 = .ok (.iastore, 1) := by decide +kernel
theorem d_Mod_lower_73 : decode b_Mod_lower 73 = .ok (.goto (-57), 3) := by decide +kernel
theorem d_Mod_lower_76 : decode b_Mod_lower 76 = .ok (.return_, 1) := by decide +kernel
theorem d_Mod_insertAt_0 : decode b_Mod_insertAt 0 = .ok (.aload_n 0, 1) := by decide +kernel
theorem d_Mod_insertAt_1 : decode b_Mod_insertAt 1 = .ok (.iload_n 1, 1) := by decide +kernel
theorem d_Mod_insertAt_2 : decode b_Mod_insertAt 2 = .ok (.invokevirtual 86, 3) := by decide +kernel
theorem d_Mod_insertAt_5 : decode b_Mod_insertAt 5 = .ok (.ifCond .eq 17, 3) := by decide +kernel
theorem d_Mod_insertAt_8 : decode b_Mod_insertAt 8 = .ok (.iload_n 2, 1) := by decide +kernel
theorem d_Mod_insertAt_9 : decode b_Mod_insertAt 9 = .ok (.ifCond .lt 13, 3) := by decide +kernel
theorem d_Mod_insertAt_12 : decode b_Mod_insertAt 12 = .ok (.iload_n 2, 1) := by decide +kernel
theorem d_Mod_insertAt_13 : decode b_Mod_insertAt 13 = .ok (.aload_n 0, 1) := by decide +kernel
theorem d_Mod_insertAt_14 : decode b_Mod_insertAt 14 = .ok (.getfield 17, 3) := by decide +kernel
theorem d_Mod_insertAt_17 : decode b_Mod_insertAt 17 = .ok (.iload_n 1, 1) := by decide +kernel
theorem d_Mod_insertAt_18 : decode b_Mod_insertAt 18 = .ok (.iaload, 1) := by decide +kernel
theorem d_Mod_insertAt_19 : decode b_Mod_insertAt 19 = .ok (.if_icmp .le 5, 3) := by decide +kernel
theorem d_Mod_insertAt_22 : decode b_Mod_insertAt 22 = .ok (.iconst (-1), 1) := by decide +kernel
theorem d_Mod_insertAt_23 : decode b_Mod_insertAt 23 = .ok (.ireturn, 1) := by decide +kernel
theorem d_Mod_insertAt_24 : decode b_Mod_insertAt 24 = .ok (.aload_n 0, 1) := by decide +kernel
theorem d_Mod_insertAt_25 : decode b_Mod_insertAt 25 = .ok (.getfield 30, 3) := by decide +kernel
theorem d_Mod_insertAt_28 : decode b_Mod_insertAt 28 = .ok (.bipush 40, 2) := by decide +kernel
theorem d_Mod_insertAt_30 : decode b_Mod_insertAt 30 = .ok (.if_icmp .ne 6, 3) := by decide +kernel
theorem d_Mod_insertAt_33 : decode b_Mod_insertAt 33 = .ok (.bipush (-2), 2) := by decide +kernel
theorem d_Mod_insertAt_35 : decode b_Mod_insertAt 35 = .ok (.ireturn, 1) := by decide +kernel
theorem d_Mod_insertAt_36 : decode b_Mod_insertAt 36 = .ok (.aload_n 0, 1) := by decide +kernel
theorem d_Mod_insertAt_37 : decode b_Mod_insertAt 37 = .ok (.getfield 17, 3) := by decide +kernel
theorem d_Mod_insertAt_40 : decode b_Mod_insertAt 40 = .ok (.iload_n 1, 1) := by decide +kernel
theorem d_Mod_insertAt_41 : decode b_Mod_insertAt 41 = .ok (.iaload, 1) := by decide +kernel
theorem d_Mod_insertAt_42 : decode b_Mod_insertAt 42 = .ok (.bipush 80, 2) := by decide +kernel
theorem d_Mod_insertAt_44 : decode b_Mod_insertAt 44 = .ok (.if_icmp .ne 6, 3) := by decide +kernel
theorem d_Mod_insertAt_47 : decode b_Mod_insertAt 47 = .ok (.bipush (-3), 2) := by decide +kernel
theorem d_Mod_insertAt_49 : decode b_Mod_insertAt 49 = .ok (.ireturn, 1) := by decide +kernel
theorem d_Mod_insertAt_50 : decode b_Mod_insertAt 50 = .ok (.aload_n 0, 1) := by decide +kernel
theorem d_Mod_insertAt_51 : decode b_Mod_insertAt 51 = .ok (.iconst 0, 1) := by decide +kernel
theorem d_Mod_insertAt_52 : decode b_Mod_insertAt 52 = .ok (.iload_n 1, 1) := by decide +kernel
theorem d_Mod_insertAt_53 : decode b_Mod_insertAt 53 = .ok (.invokevirtual 89, 3) := by decide +kernel
theorem d_Mod_insertAt_56 : decode b_Mod_insertAt 56 = .ok (.aload_n 0, 1) := by decide +kernel
theorem d_Mod_insertAt_57 : decode b_Mod_insertAt 57 = .ok (.iconst 1, 1) := by decide +kernel
theorem d_Mod_insertAt_58 : decode b_Mod_insertAt 58 = .ok (.iload_n 1, 1) := by decide +kernel
theorem d_Mod_insertAt_59 : decode b_Mod_insertAt 59 = .ok (.invokevirtual 89, 3) := by decide +kernel
theorem d_Mod_insertAt_62 : decode b_Mod_insertAt 62 = .ok (.aload_n 0, 1) := by decide +kernel
theorem d_Mod_insertAt_63 : decode b_Mod_insertAt 63 = .ok (.iconst 0, 1) := by decide +kernel
theorem d_Mod_insertAt_64 : decode b_Mod_insertAt 64 = .ok (.iconst 0, 1) := by decide +kernel
theorem d_Mod_insertAt_65 : decode b_Mod_insertAt 65 = .ok (.iload_n 2, 1) := by decide +kernel
theorem d_Mod_insertAt_66 : decode b_Mod_insertAt 66 = .ok (.invokevirtual 107, 3) := by decide +kernel
theorem d_Mod_insertAt_69 : decode b_Mod_insertAt 69 = .ok (.aload_n 0, 1) := by decide +kernel
theorem d_Mod_insertAt_70 : decode b_Mod_insertAt 70 = .ok (.iconst 0, 1) := by decide +kernel
theorem d_Mod_insertAt_71 : decode b_Mod_insertAt 71 = .ok (.iload_n 3, 1) := by decide +kernel
theorem d_Mod_insertAt_72 : decode b_Mod_insertAt 72 = .ok (.iconst 1, 1) := by decide +kernel
theorem d_Mod_insertAt_73 : decode b_Mod_insertAt 73 = .ok (.invokevirtual 92, 3) := by decide +kernel
theorem d_Mod_insertAt_76 : decode b_Mod_insertAt 76 = .ok (.aload_n 0, 1) := by decide +kernel
theorem d_Mod_insertAt_77 : decode b_Mod_insertAt 77 = .ok (.iconst 1, 1) := by decide +kernel
theorem d_Mod_insertAt_78 : decode b_Mod_insertAt 78 = .ok (.iload_n 2, 1) := by decide +kernel
theorem d_Mod_insertAt_79 : decode b_Mod_insertAt 79 = .ok (.aload_n 0, 1) := by decide +kernel
theorem d_Mod_insertAt_80 : decode b_Mod_insertAt 80 = .ok (.getfield 17, 3) := by decide +kernel
theorem d_Mod_insertAt_83 : decode b_Mod_insertAt 83 = .ok (.iload_n 1, 1) := by decide +kernel
theorem d_Mod_insertAt_84 : decode b_Mod_insertAt 84 = .ok (.iaload, 1) := by decide +kernel
theorem d_Mod_insertAt_85 : decode b_Mod_insertAt 85 = .ok (.invokevirtual 107, 3) := by decide +kernel
theorem d_Mod_insertAt_88 : decode b_Mod_insertAt 88 = .ok (.aload_n 0, 1) := by decide +kernel
theorem d_Mod_insertAt_89 : decode b_Mod_insertAt 89 = .ok (.invokevirtual 104, 3) := by decide +kernel
theorem d_Mod_insertAt_92 : decode b_Mod_insertAt 92 = .ok (.aload_n 0, 1) := by decide +kernel
theorem d_Mod_insertAt_93 : decode b_Mod_insertAt 93 = .ok (.iconst 2, 1) := by decide +kernel
theorem d_Mod_insertAt_94 : decode b_Mod_insertAt 94 = .ok (.invokevirtual 96, 3) := by decide +kernel
theorem d_Mod_insertAt_97 : decode b_Mod_insertAt 97 = .ok (.ireturn, 1) := by decide +kernel
theorem d_Mod_removeAt_0 : decode b_Mod_removeAt 0 = .ok (.aload_n 0, 1) := by decide +kernel
theorem d_Mod_removeAt_1 : decode b_Mod_removeAt 1 = .ok (.iload_n 1, 1) := by decide +kernel
theorem d_Mod_removeAt_2 : decode b_Mod_removeAt 2 = .ok (.invokevirtual 86, 3) := by decide +kernel
theorem d_Mod_removeAt_5 : decode b_Mod_removeAt 5 = .ok (.ifCond .eq 17, 3) := by decide +kernel
theorem d_Mod_removeAt_8 : decode b_Mod_removeAt 8 = .ok (.iload_n 2, 1) := by decide +kernel
theorem d_Mod_removeAt_9 : decode b_Mod_removeAt 9 = .ok (.ifCond .lt 13, 3) := by decide +kernel
theorem d_Mod_removeAt_12 : decode b_Mod_removeAt 12 = .ok (.iload_n 2, 1) := by decide +kernel
theorem d_Mod_removeAt_13 : decode b_Mod_removeAt 13 = .ok (.aload_n 0, 1) := by decide +kernel
theorem d_Mod_removeAt_14 : decode b_Mod_removeAt 14 = .ok (.getfield 17, 3) := by decide +kernel
theorem d_Mod_removeAt_17 : decode b_Mod_removeAt 17 = .ok (.iload_n 1, 1) := by decide +kernel
theorem d_Mod_removeAt_18 : decode b_Mod_removeAt 18 = .ok (.iaload, 1) := by decide +kernel
theorem d_Mod_removeAt_19 : decode b_Mod_removeAt 19 = .ok (.if_icmp .lt 5, 3) := by decide +kernel
theorem d_Mod_removeAt_22 : decode b_Mod_removeAt 22 = .ok (.iconst (-1), 1) := by decide +kernel
theorem d_Mod_removeAt_23 : decode b_Mod_removeAt 23 = .ok (.ireturn, 1) := by decide +kernel
theorem d_Mod_removeAt_24 : decode b_Mod_removeAt 24 = .ok (.aload_n 0, 1) := by decide +kernel
theorem d_Mod_removeAt_25 : decode b_Mod_removeAt 25 = .ok (.getfield 30, 3) := by decide +kernel
theorem d_Mod_removeAt_28 : decode b_Mod_removeAt 28 = .ok (.bipush 40, 2) := by decide +kernel
theorem d_Mod_removeAt_30 : decode b_Mod_removeAt 30 = .ok (.if_icmp .ne 6, 3) := by decide +kernel
theorem d_Mod_removeAt_33 : decode b_Mod_removeAt 33 = .ok (.bipush (-2), 2) := by decide +kernel
theorem d_Mod_removeAt_35 : decode b_Mod_removeAt 35 = .ok (.ireturn, 1) := by decide +kernel
theorem d_Mod_removeAt_36 : decode b_Mod_removeAt 36 = .ok (.aload_n 0, 1) := by decide +kernel
theorem d_Mod_removeAt_37 : decode b_Mod_removeAt 37 = .ok (.iconst 0, 1) := by decide +kernel
theorem d_Mod_removeAt_38 : decode b_Mod_removeAt 38 = .ok (.iload_n 1, 1) := by decide +kernel
theorem d_Mod_removeAt_39 : decode b_Mod_removeAt 39 = .ok (.invokevirtual 89, 3) := by decide +kernel
theorem d_Mod_removeAt_42 : decode b_Mod_removeAt 42 = .ok (.aload_n 0, 1) := by decide +kernel
theorem d_Mod_removeAt_43 : decode b_Mod_removeAt 43 = .ok (.iconst 1, 1) := by decide +kernel
theorem d_Mod_removeAt_44 : decode b_Mod_removeAt 44 = .ok (.iload_n 1, 1) := by decide +kernel
theorem d_Mod_removeAt_45 : decode b_Mod_removeAt 45 = .ok (.invokevirtual 89, 3) := by decide +kernel
theorem d_Mod_removeAt_48 : decode b_Mod_removeAt 48 = .ok (.aload_n 0, 1) := by decide +kernel
theorem d_Mod_removeAt_49 : decode b_Mod_removeAt 49 = .ok (.iconst 0, 1) := by decide +kernel
theorem d_Mod_removeAt_50 : decode b_Mod_removeAt 50 = .ok (.iconst 0, 1) := by decide +kernel
theorem d_Mod_removeAt_51 : decode b_Mod_removeAt 51 = .ok (.iload_n 2, 1) := by decide +kernel
theorem d_Mod_removeAt_52 : decode b_Mod_removeAt 52 = .ok (.invokevirtual 107, 3) := by decide +kernel
theorem d_Mod_removeAt_55 : decode b_Mod_removeAt 55 = .ok (.aload_n 0, 1) := by decide +kernel
theorem d_Mod_removeAt_56 : decode b_Mod_removeAt 56 = .ok (.iconst 1, 1) := by decide +kernel
theorem d_Mod_removeAt_57 : decode b_Mod_removeAt 57 = .ok (.iload_n 2, 1) := by decide +kernel
theorem d_Mod_removeAt_58 : decode b_Mod_removeAt 58 = .ok (.iconst 1, 1) := by decide +kernel
theorem d_Mod_removeAt_59 : decode b_Mod_removeAt 59 = .ok (.iadd, 1) := by decide +kernel
theorem d_Mod_removeAt_60 : decode b_Mod_removeAt 60 = .ok (.aload_n 0, 1) := by decide +kernel
theorem d_Mod_removeAt_61 : decode b_Mod_removeAt 61 = .ok (.getfield 17, 3) := by decide +kernel
theorem d_Mod_removeAt_64 : decode b_Mod_removeAt 64 = .ok (.iload_n 1, 1) := by decide +kernel
theorem d_Mod_removeAt_65 : decode b_Mod_removeAt 65 = .ok (.iaload, 1) := by decide +kernel
theorem d_Mod_removeAt_66 : decode b_Mod_removeAt 66 = .ok (.invokevirtual 107, 3) := by decide +kernel
theorem d_Mod_removeAt_69 : decode b_Mod_removeAt 69 = .ok (.aload_n 0, 1) := by decide +kernel
theorem d_Mod_removeAt_70 : decode b_Mod_removeAt 70 = .ok (.invokevirtual 104, 3) := by decide +kernel
theorem d_Mod_removeAt_73 : decode b_Mod_removeAt 73 = .ok (.aload_n 0, 1) := by decide +kernel
theorem d_Mod_removeAt_74 : decode b_Mod_removeAt 74 = .ok (.iconst 2, 1) := by decide +kernel
theorem d_Mod_removeAt_75 : decode b_Mod_removeAt 75 = .ok (.invokevirtual 96, 3) := by decide +kernel
theorem d_Mod_removeAt_78 : decode b_Mod_removeAt 78 = .ok (.ireturn, 1) := by decide +kernel
theorem d_Mod_thaw_0 : decode b_Mod_thaw 0 = .ok (.aload_n 0, 1) := by decide +kernel
theorem d_Mod_thaw_1 : decode b_Mod_thaw 1 = .ok (.iload_n 1, 1) := by decide +kernel
theorem d_Mod_thaw_2 : decode b_Mod_thaw 2 = .ok (.invokevirtual 86, 3) := by decide +kernel
theorem d_Mod_thaw_5 : decode b_Mod_thaw 5 = .ok (.ifCond .ne 5, 3) := by decide +kernel
theorem d_Mod_thaw_8 : decode b_Mod_thaw 8 = .ok (.iconst (-1), 1) := by decide +kernel
theorem d_Mod_thaw_9 : decode b_Mod_thaw 9 = .ok (.ireturn, 1) := by decide +kernel
theorem d_Mod_thaw_10 : decode b_Mod_thaw 10 = .ok (.aload_n 0, 1) := by decide +kernel
theorem d_Mod_thaw_11 : decode b_Mod_thaw 11 = .ok (.getfield 30, 3) := by decide +kernel
theorem d_Mod_thaw_14 : decode b_Mod_thaw 14 = .ok (.bipush 40, 2) := by decide +kernel
theorem d_Mod_thaw_16 : decode b_Mod_thaw 16 = .ok (.if_icmp .ne 6, 3) := by decide +kernel
theorem d_Mod_thaw_19 : decode b_Mod_thaw 19 = .ok (.bipush (-2), 2) := by decide +kernel
theorem d_Mod_thaw_21 : decode b_Mod_thaw 21 = .ok (.ireturn, 1) := by decide +kernel
theorem d_Mod_thaw_22 : decode b_Mod_thaw 22 = .ok (.aload_n 0, 1) := by decide +kernel
theorem d_Mod_thaw_23 : decode b_Mod_thaw 23 = .ok (.iconst 0, 1) := by decide +kernel
theorem d_Mod_thaw_24 : decode b_Mod_thaw 24 = .ok (.iload_n 1, 1) := by decide +kernel
theorem d_Mod_thaw_25 : decode b_Mod_thaw 25 = .ok (.invokevirtual 89, 3) := by decide +kernel
theorem d_Mod_thaw_28 : decode b_Mod_thaw 28 = .ok (.aload_n 0, 1) := by decide +kernel
theorem d_Mod_thaw_29 : decode b_Mod_thaw 29 = .ok (.iconst 0, 1) := by decide +kernel
theorem d_Mod_thaw_30 : decode b_Mod_thaw 30 = .ok (.invokevirtual 96, 3) := by decide +kernel
theorem d_Mod_thaw_33 : decode b_Mod_thaw 33 = .ok (.istore_n 2, 1) := by decide +kernel
theorem d_Mod_thaw_34 : decode b_Mod_thaw 34 = .ok (.aload_n 0, 1) := by decide +kernel
theorem d_Mod_thaw_35 : decode b_Mod_thaw 35 = .ok (.getfield 26, 3) := by decide +kernel
theorem d_Mod_thaw_38 : decode b_Mod_thaw 38 = .ok (.iload_n 2, 1) := by decide +kernel
theorem d_Mod_thaw_39 : decode b_Mod_thaw 39 = .ok (.iconst 1, 1) := by decide +kernel
theorem d_Mod_thaw_40 : decode b_Mod_thaw 40 = .ok (.bastore, 1) := by decide +kernel
theorem d_Mod_thaw_41 : decode b_Mod_thaw 41 = .ok (.iload_n 2, 1) := by decide +kernel
theorem d_Mod_thaw_42 : decode b_Mod_thaw 42 = .ok (.ireturn, 1) := by decide +kernel
theorem d_Mod_push_0 : decode b_Mod_push 0 = .ok (.aload_n 0, 1) := by decide +kernel
theorem d_Mod_push_1 : decode b_Mod_push 1 = .ok (.iload_n 1, 1) := by decide +kernel
theorem d_Mod_push_2 : decode b_Mod_push 2 = .ok (.invokevirtual 55, 3) := by decide +kernel
theorem d_Mod_push_5 : decode b_Mod_push 5 = .ok (.ifCond .eq 23, 3) := by decide +kernel
theorem d_Mod_push_8 : decode b_Mod_push 8 = .ok (.aload_n 0, 1) := by decide +kernel
theorem d_Mod_push_9 : decode b_Mod_push 9 = .ok (.getfield 26, 3) := by decide +kernel
theorem d_Mod_push_12 : decode b_Mod_push 12 = .ok (.iload_n 1, 1) := by decide +kernel
theorem d_Mod_push_13 : decode b_Mod_push 13 = .ok (.baload, 1) := by decide +kernel
theorem d_Mod_push_14 : decode b_Mod_push 14 = .ok (.ifCond .eq 14, 3) := by decide +kernel
theorem d_Mod_push_17 : decode b_Mod_push 17 = .ok (.aload_n 0, 1) := by decide +kernel
theorem d_Mod_push_18 : decode b_Mod_push 18 = .ok (.getfield 17, 3) := by decide +kernel
theorem d_Mod_push_21 : decode b_Mod_push 21 = .ok (.iload_n 1, 1) := by decide +kernel
theorem d_Mod_push_22 : decode b_Mod_push 22 = .ok (.iaload, 1) := by decide +kernel
theorem d_Mod_push_23 : decode b_Mod_push 23 = .ok (.bipush 80, 2) := by decide +kernel
theorem d_Mod_push_25 : decode b_Mod_push 25 = .ok (.if_icmp .ne 5, 3) := by decide +kernel
theorem d_Mod_push_28 : decode b_Mod_push 28 = .ok (.iconst 0, 1) := by decide +kernel
theorem d_Mod_push_29 : decode b_Mod_push 29 = .ok (.ireturn, 1) := by decide +kernel
theorem d_Mod_push_30 : decode b_Mod_push 30 = .ok (.aload_n 0, 1) := by decide +kernel
theorem d_Mod_push_31 : decode b_Mod_push 31 = .ok (.iconst 0, 1) := by decide +kernel
theorem d_Mod_push_32 : decode b_Mod_push 32 = .ok (.iload_n 1, 1) := by decide +kernel
theorem d_Mod_push_33 : decode b_Mod_push 33 = .ok (.invokevirtual 89, 3) := by decide +kernel
theorem d_Mod_push_36 : decode b_Mod_push 36 = .ok (.aload_n 0, 1) := by decide +kernel
theorem d_Mod_push_37 : decode b_Mod_push 37 = .ok (.iconst 0, 1) := by decide +kernel
theorem d_Mod_push_38 : decode b_Mod_push 38 = .ok (.iload_n 2, 1) := by decide +kernel
theorem d_Mod_push_39 : decode b_Mod_push 39 = .ok (.iconst 1, 1) := by decide +kernel
theorem d_Mod_push_40 : decode b_Mod_push 40 = .ok (.invokevirtual 92, 3) := by decide +kernel
theorem d_Mod_push_43 : decode b_Mod_push 43 = .ok (.aload_n 0, 1) := by decide +kernel
theorem d_Mod_push_44 : decode b_Mod_push 44 = .ok (.getfield 46, 3) := by decide +kernel
theorem d_Mod_push_47 : decode b_Mod_push 47 = .ok (.iconst 0, 1) := by decide +kernel
theorem d_Mod_push_48 : decode b_Mod_push 48 = .ok (.iaload, 1) := by decide +kernel
theorem d_Mod_push_49 : decode b_Mod_push 49 = .ok (.iconst 4, 1) := by decide +kernel
theorem d_Mod_push_50 : decode b_Mod_push 50 = .ok (.if_icmp .le 5, 3) := by decide +kernel
theorem d_Mod_push_53 : decode b_Mod_push 53 = .ok (.iconst 0, 1) := by decide +kernel
theorem d_Mod_push_54 : decode b_Mod_push 54 = .ok (.ireturn, 1) := by decide +kernel
theorem d_Mod_push_55 : decode b_Mod_push 55 = .ok (.aload_n 0, 1) := by decide +kernel
theorem d_Mod_push_56 : decode b_Mod_push 56 = .ok (.iconst 0, 1) := by decide +kernel
theorem d_Mod_push_57 : decode b_Mod_push 57 = .ok (.iload_n 1, 1) := by decide +kernel
theorem d_Mod_push_58 : decode b_Mod_push 58 = .ok (.invokevirtual 63, 3) := by decide +kernel
theorem d_Mod_push_61 : decode b_Mod_push 61 = .ok (.iconst 1, 1) := by decide +kernel
theorem d_Mod_push_62 : decode b_Mod_push 62 = .ok (.ireturn, 1) := by decide +kernel
theorem d_Mod_put_0 : decode b_Mod_put 0 = .ok (.aload_n 0, 1) := by decide +kernel
theorem d_Mod_put_1 : decode b_Mod_put 1 = .ok (.iload_n 1, 1) := by decide +kernel
theorem d_Mod_put_2 : decode b_Mod_put 2 = .ok (.invokevirtual 55, 3) := by decide +kernel
theorem d_Mod_put_5 : decode b_Mod_put 5 = .ok (.ifCond .eq 26, 3) := by decide +kernel
theorem d_Mod_put_8 : decode b_Mod_put 8 = .ok (.aload_n 0, 1) := by decide +kernel
theorem d_Mod_put_9 : decode b_Mod_put 9 = .ok (.getfield 26, 3) := by decide +kernel
theorem d_Mod_put_12 : decode b_Mod_put 12 = .ok (.iload_n 1, 1) := by decide +kernel
theorem d_Mod_put_13 : decode b_Mod_put 13 = .ok (.baload, 1) := by decide +kernel
theorem d_Mod_put_14 : decode b_Mod_put 14 = .ok (.ifCond .eq 17, 3) := by decide +kernel
theorem d_Mod_put_17 : decode b_Mod_put 17 = .ok (.iload_n 2, 1) := by decide +kernel
theorem d_Mod_put_18 : decode b_Mod_put 18 = .ok (.ifCond .lt 13, 3) := by decide +kernel
theorem d_Mod_put_21 : decode b_Mod_put 21 = .ok (.iload_n 2, 1) := by decide +kernel
theorem d_Mod_put_22 : decode b_Mod_put 22 = .ok (.aload_n 0, 1) := by decide +kernel
theorem d_Mod_put_23 : decode b_Mod_put 23 = .ok (.getfield 17, 3) := by decide +kernel
theorem d_Mod_put_26 : decode b_Mod_put 26 = .ok (.iload_n 1, 1) := by decide +kernel
theorem d_Mod_put_27 : decode b_Mod_put 27 = .ok (.iaload, 1) := by decide +kernel
theorem d_Mod_put_28 : decode b_Mod_put 28 = .ok (.if_icmp .lt 5, 3) := by decide +kernel
theorem d_Mod_put_31 : decode b_Mod_put 31 = .ok (.iconst 0, 1) := by decide +kernel
theorem d_Mod_put_32 : decode b_Mod_put 32 = .ok (.ireturn, 1) := by decide +kernel
theorem d_Mod_put_33 : decode b_Mod_put 33 = .ok (.aload_n 0, 1) := by decide +kernel
theorem d_Mod_put_34 : decode b_Mod_put 34 = .ok (.getfield 7, 3) := by decide +kernel
theorem d_Mod_put_37 : decode b_Mod_put 37 = .ok (.bipush 80, 2) := by decide +kernel
theorem d_Mod_put_39 : decode b_Mod_put 39 = .ok (.iload_n 1, 1) := by decide +kernel
theorem d_Mod_put_40 : decode b_Mod_put 40 = .ok (.imul, 1) := by decide +kernel
theorem d_Mod_put_41 : decode b_Mod_put 41 = .ok (.iload_n 2, 1) := by decide +kernel
theorem d_Mod_put_42 : decode b_Mod_put 42 = .ok (.iadd, 1) := by decide +kernel
theorem d_Mod_put_43 : decode b_Mod_put 43 = .ok (.iload_n 3, 1) := by decide +kernel
theorem d_Mod_put_44 : decode b_Mod_put 44 = .ok (.iastore, 1) := by decide +kernel
theorem d_Mod_put_45 : decode b_Mod_put 45 = .ok (.iconst 1, 1) := by decide +kernel
theorem d_Mod_put_46 : decode b_Mod_put 46 = .ok (.ireturn, 1) := by decide +kernel
theorem d_Mod_freeze_0 : decode b_Mod_freeze 0 = .ok (.aload_n 0, 1) := by decide +kernel
theorem d_Mod_freeze_1 : decode b_Mod_freeze 1 = .ok (.iload_n 1, 1) := by decide +kernel
theorem d_Mod_freeze_2 : decode b_Mod_freeze 2 = .ok (.invokevirtual 55, 3) := by decide +kernel
theorem d_Mod_freeze_5 : decode b_Mod_freeze 5 = .ok (.ifCond .eq 12, 3) := by decide +kernel
theorem d_Mod_freeze_8 : decode b_Mod_freeze 8 = .ok (.aload_n 0, 1) := by decide +kernel
theorem d_Mod_freeze_9 : decode b_Mod_freeze 9 = .ok (.getfield 26, 3) := by decide +kernel
theorem d_Mod_freeze_12 : decode b_Mod_freeze 12 = .ok (.iload_n 1, 1) := by decide +kernel
theorem d_Mod_freeze_13 : decode b_Mod_freeze 13 = .ok (.baload, 1) := by decide +kernel
theorem d_Mod_freeze_14 : decode b_Mod_freeze 14 = .ok (.ifCond .ne 5, 3) := by decide +kernel
theorem d_Mod_freeze_17 : decode b_Mod_freeze 17 = .ok (.iconst 0, 1) := by decide +kernel
theorem d_Mod_freeze_18 : decode b_Mod_freeze 18 = .ok (.ireturn, 1) := by decide +kernel
theorem d_Mod_freeze_19 : decode b_Mod_freeze 19 = .ok (.aload_n 0, 1) := by decide +kernel
theorem d_Mod_freeze_20 : decode b_Mod_freeze 20 = .ok (.getfield 26, 3) := by decide +kernel
theorem d_Mod_freeze_23 : decode b_Mod_freeze 23 = .ok (.iload_n 1, 1) := by decide +kernel
theorem d_Mod_freeze_24 : decode b_Mod_freeze 24 = .ok (.iconst 0, 1) := by decide +kernel
theorem d_Mod_freeze_25 : decode b_Mod_freeze 25 = .ok (.bastore, 1) := by decide +kernel
theorem d_Mod_freeze_26 : decode b_Mod_freeze 26 = .ok (.iconst 1, 1) := by decide +kernel
theorem d_Mod_freeze_27 : decode b_Mod_freeze 27 = .ok (.ireturn, 1) := by decide +kernel
theorem d_Mod_versions_0 : decode b_Mod_versions 0 = .ok (.aload_n 0, 1) := by decide +kernel
theorem d_Mod_versions_1 : decode b_Mod_versions 1 = .ok (.getfield 30, 3) := by decide +kernel
theorem d_Mod_versions_4 : decode b_Mod_versions 4 = .ok (.ireturn, 1) := by decide +kernel
theorem d_Mod_size_0 : decode b_Mod_size 0 = .ok (.aload_n 0, 1) := by decide +kernel
theorem d_Mod_size_1 : decode b_Mod_size 1 = .ok (.iload_n 1, 1) := by decide +kernel
theorem d_Mod_size_2 : decode b_Mod_size 2 = .ok (.invokevirtual 55, 3) := by decide +kernel
theorem d_Mod_size_5 : decode b_Mod_size 5 = .ok (.ifCond .eq 12, 3) := by decide +kernel
theorem d_Mod_size_8 : decode b_Mod_size 8 = .ok (.aload_n 0, 1) := by decide +kernel
theorem d_Mod_size_9 : decode b_Mod_size 9 = .ok (.getfield 17, 3) := by decide +kernel
theorem d_Mod_size_12 : decode b_Mod_size 12 = .ok (.iload_n 1, 1) := by decide +kernel
theorem d_Mod_size_13 : decode b_Mod_size 13 = .ok (.iaload, 1) := by decide +kernel
theorem d_Mod_size_14 : decode b_Mod_size 14 = .ok (.goto 4, 3) := by decide +kernel
theorem d_Mod_size_17 : decode b_Mod_size 17 = .ok (.iconst (-1), 1) := by decide +kernel
theorem d_Mod_size_18 : decode b_Mod_size 18 = .ok (.ireturn, 1) := by decide +kernel
theorem d_Mod_get_0 : decode b_Mod_get 0 = .ok (.aload_n 0, 1) := by decide +kernel
theorem d_Mod_get_1 : decode b_Mod_get 1 = .ok (.iload_n 1, 1) := by decide +kernel
theorem d_Mod_get_2 : decode b_Mod_get 2 = .ok (.invokevirtual 55, 3) := by decide +kernel
theorem d_Mod_get_5 : decode b_Mod_get 5 = .ok (.ifCond .eq 32, 3) := by decide +kernel
theorem d_Mod_get_8 : decode b_Mod_get 8 = .ok (.iload_n 2, 1) := by decide +kernel
theorem d_Mod_get_9 : decode b_Mod_get 9 = .ok (.ifCond .lt 28, 3) := by decide +kernel
theorem d_Mod_get_12 : decode b_Mod_get 12 = .ok (.iload_n 2, 1) := by decide +kernel
theorem d_Mod_get_13 : decode b_Mod_get 13 = .ok (.aload_n 0, 1) := by decide +kernel
theorem d_Mod_get_14 : decode b_Mod_get 14 = .ok (.getfield 17, 3) := by decide +kernel
theorem d_Mod_get_17 : decode b_Mod_get 17 = .ok (.iload_n 1, 1) := by decide +kernel
theorem d_Mod_get_18 : decode b_Mod_get 18 = .ok (.iaload, 1) := by decide +kernel
theorem d_Mod_get_19 : decode b_Mod_get 19 = .ok (.if_icmp .ge 18, 3) := by decide +kernel
theorem d_Mod_get_22 : decode b_Mod_get 22 = .ok (.aload_n 0, 1) := by decide +kernel
theorem d_Mod_get_23 : decode b_Mod_get 23 = .ok (.getfield 7, 3) := by decide +kernel
theorem d_Mod_get_26 : decode b_Mod_get 26 = .ok (.bipush 80, 2) := by decide +kernel
theorem d_Mod_get_28 : decode b_Mod_get 28 = .ok (.iload_n 1, 1) := by decide +kernel
theorem d_Mod_get_29 : decode b_Mod_get 29 = .ok (.imul, 1) := by decide +kernel
theorem d_Mod_get_30 : decode b_Mod_get 30 = .ok (.iload_n 2, 1) := by decide +kernel
theorem d_Mod_get_31 : decode b_Mod_get 31 = .ok (.iadd, 1) := by decide +kernel
theorem d_Mod_get_32 : decode b_Mod_get 32 = .ok (.iaload, 1) := by decide +kernel
theorem d_Mod_get_33 : decode b_Mod_get 33 = .ok (.i2l, 1) := by decide +kernel
theorem d_Mod_get_34 : decode b_Mod_get 34 = .ok (.goto 6, 3) := by decide +kernel
theorem d_Mod_get_37 : decode b_Mod_get 37 = .ok (.ldc2_w 110, 3) := by decide +kernel
theorem d_Mod_get_40 : decode b_Mod_get 40 = .ok (.lreturn, 1) := by decide +kernel
theorem d_Mod_hash_0 : decode b_Mod_hash 0 = .ok (.aload_n 0, 1) := by decide +kernel
theorem d_Mod_hash_1 : decode b_Mod_hash 1 = .ok (.iload_n 1, 1) := by decide +kernel
theorem d_Mod_hash_2 : decode b_Mod_hash 2 = .ok (.invokevirtual 55, 3) := by decide +kernel
theorem d_Mod_hash_5 : decode b_Mod_hash 5 = .ok (.ifCond .ne 5, 3) := by decide +kernel
theorem d_Mod_hash_8 : decode b_Mod_hash 8 = .ok (.iconst 0, 1) := by decide +kernel
theorem d_Mod_hash_9 : decode b_Mod_hash 9 = .ok (.ireturn, 1) := by decide +kernel
theorem d_Mod_hash_10 : decode b_Mod_hash 10 = .ok (.iconst 1, 1) := by decide +kernel
theorem d_Mod_hash_11 : decode b_Mod_hash 11 = .ok (.istore_n 2, 1) := by decide +kernel
theorem d_Mod_hash_12 : decode b_Mod_hash 12 = .ok (.iconst 0, 1) := by decide +kernel
theorem d_Mod_hash_13 : decode b_Mod_hash 13 = .ok (.istore_n 3, 1) := by decide +kernel
theorem d_Mod_hash_14 : decode b_Mod_hash 14 = .ok (.iload_n 3, 1) := by decide +kernel
theorem d_Mod_hash_15 : decode b_Mod_hash 15 = .ok (.aload_n 0, 1) := by decide +kernel
theorem d_Mod_hash_16 : decode b_Mod_hash 16 = .ok (.getfield 17, 3) := by decide +kernel
theorem d_Mod_hash_19 : decode b_Mod_hash 19 = .ok (.iload_n 1, 1) := by decide +kernel
theorem d_Mod_hash_20 : decode b_Mod_hash 20 = .ok (.iaload, 1) := by decide +kernel
theorem d_Mod_hash_21 : decode b_Mod_hash 21 = .ok (.if_icmp .ge 26, 3) := by decide +kernel
theorem d_Mod_hash_24 : decode b_Mod_hash 24 = .ok (.bipush 31, 2) := by decide +kernel
theorem d_Mod_hash_26 : decode b_Mod_hash 26 = .ok (.iload_n 2, 1) := by decide +kernel
theorem d_Mod_hash_27 : decode b_Mod_hash 27 = .ok (.imul, 1) := by decide +kernel
theorem d_Mod_hash_28 : decode b_Mod_hash 28 = .ok (.aload_n 0, 1) := by decide +kernel
theorem d_Mod_hash_29 : decode b_Mod_hash 29 = .ok (.getfield 7, 3) := by decide +kernel
theorem d_Mod_hash_32 : decode b_Mod_hash 32 = .ok (.bipush 80, 2) := by decide +kernel
theorem d_Mod_hash_34 : decode b_Mod_hash 34 = .ok (.iload_n 1, 1) := by decide +kernel
theorem d_Mod_hash_35 : decode b_Mod_hash 35 = .ok (.imul, 1) := by decide +kernel
theorem d_Mod_hash_36 : decode b_Mod_hash 36 = .ok (.iload_n 3, 1) := by decide +kernel
theorem d_Mod_hash_37 : decode b_Mod_hash 37 = .ok (.iadd, 1) := by decide +kernel
theorem d_Mod_hash_38 : decode b_Mod_hash 38 = .ok (.iaload, 1) := by decide +kernel
theorem d_Mod_hash_39 : decode b_Mod_hash 39 = .ok (.iadd, 1) := by decide +kernel
theorem d_Mod_hash_40 : decode b_Mod_hash 40 = .ok (.istore_n 2, 1) := by decide +kernel
theorem d_Mod_hash_41 : decode b_Mod_hash 41 = .ok (.iinc 3 1, 3) := by decide +kernel
theorem d_Mod_hash_44 : decode b_Mod_hash 44 = .ok (.goto (-30), 3) := by decide +kernel
theorem d_Mod_hash_47 : decode b_Mod_hash 47 = .ok (.iload_n 2, 1) := by decide +kernel
theorem d_Mod_hash_48 : decode b_Mod_hash 48 = .ok (.ireturn, 1) := by decide +kernel
theorem d_Mod_compare_0 : decode b_Mod_compare 0 = .ok (.aload_n 0, 1) := by decide +kernel
theorem d_Mod_compare_1 : decode b_Mod_compare 1 = .ok (.iload_n 1, 1) := by decide +kernel
theorem d_Mod_compare_2 : decode b_Mod_compare 2 = .ok (.invokevirtual 55, 3) := by decide +kernel
theorem d_Mod_compare_5 : decode b_Mod_compare 5 = .ok (.ifCond .eq 11, 3) := by decide +kernel
theorem d_Mod_compare_8 : decode b_Mod_compare 8 = .ok (.aload_n 0, 1) := by decide +kernel
theorem d_Mod_compare_9 : decode b_Mod_compare 9 = .ok (.iload_n 2, 1) := by decide +kernel
theorem d_Mod_compare_10 : decode b_Mod_compare 10 = .ok (.invokevirtual 55, 3) := by decide +kernel
theorem d_Mod_compare_13 : decode b_Mod_compare 13 = .ok (.ifCond .ne 5, 3) := by decide +kernel
theorem d_Mod_compare_16 : decode b_Mod_compare 16 = .ok (.iconst 2, 1) := by decide +kernel
theorem d_Mod_compare_17 : decode b_Mod_compare 17 = .ok (.ireturn, 1) := by decide +kernel
theorem d_Mod_compare_18 : decode b_Mod_compare 18 = .ok (.iconst 0, 1) := by decide +kernel
theorem d_Mod_compare_19 : decode b_Mod_compare 19 = .ok (.istore_n 3, 1) := by decide +kernel
theorem d_Mod_compare_20 : decode b_Mod_compare 20 = .ok (.iload_n 3, 1) := by decide +kernel
theorem d_Mod_compare_21 : decode b_Mod_compare 21 = .ok (.bipush 80, 2) := by decide +kernel
theorem d_Mod_compare_23 : decode b_Mod_compare 23 = .ok (.if_icmp .ge 119, 3) := by decide +kernel
theorem d_Mod_compare_26 : decode b_Mod_compare 26 = .ok (.iload_n 3, 1) := by decide +kernel
theorem d_Mod_compare_27 : decode b_Mod_compare 27 = .ok (.aload_n 0, 1) := by decide +kernel
theorem d_Mod_compare_28 : decode b_Mod_compare 28 = .ok (.getfield 17, 3) := by decide +kernel
theorem d_Mod_compare_31 : decode b_Mod_compare 31 = .ok (.iload_n 1, 1) := by decide +kernel
theorem d_Mod_compare_32 : decode b_Mod_compare 32 = .ok (.iaload, 1) := by decide +kernel
theorem d_Mod_compare_33 : decode b_Mod_compare 33 = .ok (.if_icmp .ge 7, 3) := by decide +kernel
theorem d_Mod_compare_36 : decode b_Mod_compare 36 = .ok (.iconst 1, 1) := by decide +kernel
theorem d_Mod_compare_37 : decode b_Mod_compare 37 = .ok (.goto 4, 3) := by decide +kernel
theorem d_Mod_compare_40 : decode b_Mod_compare 40 = .ok (.iconst 0, 1) := by decide +kernel
theorem d_Mod_compare_41 : decode b_Mod_compare 41 = .ok (.istore 4, 2) := by decide +kernel
theorem d_Mod_compare_43 : decode b_Mod_compare 43 = .ok (.iload_n 3, 1) := by decide +kernel
theorem d_Mod_compare_44 : decode b_Mod_compare 44 = .ok (.aload_n 0, 1) := by decide +kernel
theorem d_Mod_compare_45 : decode b_Mod_compare 45 = .ok (.getfield 17, 3) := by decide +kernel
theorem d_Mod_compare_48 : decode b_Mod_compare 48 = .ok (.iload_n 2, 1) := by decide +kernel
theorem d_Mod_compare_49 : decode b_Mod_compare 49 = .ok (.iaload, 1) := by decide +kernel
theorem d_Mod_compare_50 : decode b_Mod_compare 50 = .ok (.if_icmp .ge 7, 3) := by decide +kernel
theorem d_Mod_compare_53 : decode b_Mod_compare 53 = .ok (.iconst 1, 1) := by decide +kernel
theorem d_Mod_compare_54 : decode b_Mod_compare 54 = .ok (.goto 4, 3) := by decide +kernel
theorem d_Mod_compare_57 : decode b_Mod_compare 57 = .ok (.iconst 0, 1) := by decide +kernel
theorem d_Mod_compare_58 : decode b_Mod_compare 58 = .ok (.istore 5, 2) := by decide +kernel
theorem d_Mod_compare_60 : decode b_Mod_compare 60 = .ok (.iload 4, 2) := by decide +kernel
theorem d_Mod_compare_62 : decode b_Mod_compare 62 = .ok (.ifCond .eq 8, 3) := by decide +kernel
theorem d_Mod_compare_65 : decode b_Mod_compare 65 = .ok (.iload 5, 2) := by decide +kernel
theorem d_Mod_compare_67 : decode b_Mod_compare 67 = .ok (.ifCond .ne 23, 3) := by decide +kernel
theorem d_Mod_compare_70 : decode b_Mod_compare 70 = .ok (.iload 4, 2) := by decide +kernel
theorem d_Mod_compare_72 : decode b_Mod_compare 72 = .ok (.ifCond .eq 7, 3) := by decide +kernel
theorem d_Mod_compare_75 : decode b_Mod_compare 75 = .ok (.iconst 1, 1) := by decide +kernel
theorem d_Mod_compare_76 : decode b_Mod_compare 76 = .ok (.goto 13, 3) := by decide +kernel
theorem d_Mod_compare_79 : decode b_Mod_compare 79 = .ok (.iload 5, 2) := by decide +kernel
theorem d_Mod_compare_81 : decode b_Mod_compare 81 = .ok (.ifCond .eq 7, 3) := by decide +kernel
theorem d_Mod_compare_84 : decode b_Mod_compare 84 = .ok (.iconst (-1), 1) := by decide +kernel
theorem d_Mod_compare_85 : decode b_Mod_compare 85 = .ok (.goto 4, 3) := by decide +kernel
theorem d_Mod_compare_88 : decode b_Mod_compare 88 = .ok (.iconst 0, 1) := by decide +kernel
theorem d_Mod_compare_89 : decode b_Mod_compare 89 = .ok (.ireturn, 1) := by decide +kernel
theorem d_Mod_compare_90 : decode b_Mod_compare 90 = .ok (.aload_n 0, 1) := by decide +kernel
theorem d_Mod_compare_91 : decode b_Mod_compare 91 = .ok (.getfield 7, 3) := by decide +kernel
theorem d_Mod_compare_94 : decode b_Mod_compare 94 = .ok (.bipush 80, 2) := by decide +kernel
theorem d_Mod_compare_96 : decode b_Mod_compare 96 = .ok (.iload_n 1, 1) := by decide +kernel
theorem d_Mod_compare_97 : decode b_Mod_compare 97 = .ok (.imul, 1) := by decide +kernel
theorem d_Mod_compare_98 : decode b_Mod_compare 98 = .ok (.iload_n 3, 1) := by decide +kernel
theorem d_Mod_compare_99 : decode b_Mod_compare 99 = .ok (.iadd, 1) := by decide +kernel
theorem d_Mod_compare_100 : decode b_Mod_compare 100 = .ok (.iaload, 1) := by decide +kernel
theorem d_Mod_compare_101 : decode b_Mod_compare 101 = .ok (.istore 6, 2) := by decide +kernel
theorem d_Mod_compare_103 : decode b_Mod_compare 103 = .ok (.aload_n 0, 1) := by decide +kernel
theorem d_Mod_compare_104 : decode b_Mod_compare 104 = .ok (.getfield 7, 3) := by decide +kernel
theorem d_Mod_compare_107 : decode b_Mod_compare 107 = .ok (.bipush 80, 2) := by decide +kernel
theorem d_Mod_compare_109 : decode b_Mod_compare 109 = .ok (.iload_n 2, 1) := by decide +kernel
theorem d_Mod_compare_110 : decode b_Mod_compare 110 = .ok (.imul, 1) := by decide +kernel
theorem d_Mod_compare_111 : decode b_Mod_compare 111 = .ok (.iload_n 3, 1) := by decide +kernel
theorem d_Mod_compare_112 : decode b_Mod_compare 112 = .ok (.iadd, 1) := by decide +kernel
theorem d_Mod_compare_113 : decode b_Mod_compare 113 = .ok (.iaload, 1) := by decide +kernel
theorem d_Mod_compare_114 : decode b_Mod_compare 114 = .ok (.istore 7, 2) := by decide +kernel
theorem d_Mod_compare_116 : decode b_Mod_compare 116 = .ok (.iload 6, 2) := by decide +kernel
theorem d_Mod_compare_118 : decode b_Mod_compare 118 = .ok (.iload 7, 2) := by decide +kernel
theorem d_Mod_compare_120 : decode b_Mod_compare 120 = .ok (.if_icmp .eq 16, 3) := by decide +kernel
theorem d_Mod_compare_123 : decode b_Mod_compare 123 = .ok (.iload 6, 2) := by decide +kernel
theorem d_Mod_compare_125 : decode b_Mod_compare 125 = .ok (.iload 7, 2) := by decide +kernel
theorem d_Mod_compare_127 : decode b_Mod_compare 127 = .ok (.if_icmp .ge 7, 3) := by decide +kernel
theorem d_Mod_compare_130 : decode b_Mod_compare 130 = .ok (.iconst (-1), 1) := by decide +kernel
theorem d_Mod_compare_131 : decode b_Mod_compare 131 = .ok (.goto 4, 3) := by decide +kernel
theorem d_Mod_compare_134 : decode b_Mod_compare 134 = .ok (.iconst 1, 1) := by decide +kernel
theorem d_Mod_compare_135 : decode b_Mod_compare 135 = .ok (.ireturn, 1) := by decide +kernel
theorem d_Mod_compare_136 : decode b_Mod_compare 136 = .ok (.iinc 3 1, 3) := by decide +kernel
theorem d_Mod_compare_139 : decode b_Mod_compare 139 = .ok (.goto (-119), 3) := by decide +kernel
theorem d_Mod_compare_142 : decode b_Mod_compare 142 = .ok (.iconst 0, 1) := by decide +kernel
theorem d_Mod_compare_143 : decode b_Mod_compare 143 = .ok (.ireturn, 1) := by decide +kernel
theorem d_Mod_height_0 : decode b_Mod_height 0 = .ok (.aload_n 0, 1) := by decide +kernel
theorem d_Mod_height_1 : decode b_Mod_height 1 = .ok (.iload_n 1, 1) := by decide +kernel
theorem d_Mod_height_2 : decode b_Mod_height 2 = .ok (.invokevirtual 55, 3) := by decide +kernel
theorem d_Mod_height_5 : decode b_Mod_height 5 = .ok (.ifCond .eq 12, 3) := by decide +kernel
theorem d_Mod_height_8 : decode b_Mod_height 8 = .ok (.aload_n 0, 1) := by decide +kernel
theorem d_Mod_height_9 : decode b_Mod_height 9 = .ok (.getfield 20, 3) := by decide +kernel
theorem d_Mod_height_12 : decode b_Mod_height 12 = .ok (.iload_n 1, 1) := by decide +kernel
theorem d_Mod_height_13 : decode b_Mod_height 13 = .ok (.iaload, 1) := by decide +kernel
theorem d_Mod_height_14 : decode b_Mod_height 14 = .ok (.goto 4, 3) := by decide +kernel
theorem d_Mod_height_17 : decode b_Mod_height 17 = .ok (.iconst (-1), 1) := by decide +kernel
theorem d_Mod_height_18 : decode b_Mod_height 18 = .ok (.ireturn, 1) := by decide +kernel
theorem d_Mod_nodes_0 : decode b_Mod_nodes 0 = .ok (.aload_n 0, 1) := by decide +kernel
theorem d_Mod_nodes_1 : decode b_Mod_nodes 1 = .ok (.iload_n 1, 1) := by decide +kernel
theorem d_Mod_nodes_2 : decode b_Mod_nodes 2 = .ok (.invokevirtual 55, 3) := by decide +kernel
theorem d_Mod_nodes_5 : decode b_Mod_nodes 5 = .ok (.ifCond .ne 5, 3) := by decide +kernel
theorem d_Mod_nodes_8 : decode b_Mod_nodes 8 = .ok (.iconst (-1), 1) := by decide +kernel
theorem d_Mod_nodes_9 : decode b_Mod_nodes 9 = .ok (.ireturn, 1) := by decide +kernel
theorem d_Mod_nodes_10 : decode b_Mod_nodes 10 = .ok (.iconst 0, 1) := by decide +kernel
theorem d_Mod_nodes_11 : decode b_Mod_nodes 11 = .ok (.istore_n 2, 1) := by decide +kernel
theorem d_Mod_nodes_12 : decode b_Mod_nodes 12 = .ok (.iconst 1, 1) := by decide +kernel
theorem d_Mod_nodes_13 : decode b_Mod_nodes 13 = .ok (.istore_n 3, 1) := by decide +kernel
theorem d_Mod_nodes_14 : decode b_Mod_nodes 14 = .ok (.iload_n 3, 1) := by decide +kernel
theorem d_Mod_nodes_15 : decode b_Mod_nodes 15 = .ok (.iconst 4, 1) := by decide +kernel
theorem d_Mod_nodes_16 : decode b_Mod_nodes 16 = .ok (.if_icmp .gt 22, 3) := by decide +kernel
theorem d_Mod_nodes_19 : decode b_Mod_nodes 19 = .ok (.iload_n 2, 1) := by decide +kernel
theorem d_Mod_nodes_20 : decode b_Mod_nodes 20 = .ok (.aload_n 0, 1) := by decide +kernel
theorem d_Mod_nodes_21 : decode b_Mod_nodes 21 = .ok (.getfield 23, 3) := by decide +kernel
theorem d_Mod_nodes_24 : decode b_Mod_nodes 24 = .ok (.iconst 5, 1) := by decide +kernel
theorem d_Mod_nodes_25 : decode b_Mod_nodes 25 = .ok (.iload_n 1, 1) := by decide +kernel
theorem d_Mod_nodes_26 : decode b_Mod_nodes 26 = .ok (.imul, 1) := by decide +kernel
theorem d_Mod_nodes_27 : decode b_Mod_nodes 27 = .ok (.iload_n 3, 1) := by decide +kernel
theorem d_Mod_nodes_28 : decode b_Mod_nodes 28 = .ok (.iadd, 1) := by decide +kernel
theorem d_Mod_nodes_29 : decode b_Mod_nodes 29 = .ok (.iaload, 1) := by decide +kernel
theorem d_Mod_nodes_30 : decode b_Mod_nodes 30 = .ok (.iadd, 1) := by decide +kernel
theorem d_Mod_nodes_31 : decode b_Mod_nodes 31 = .ok (.istore_n 2, 1) := by decide +kernel
theorem d_Mod_nodes_32 : decode b_Mod_nodes 32 = .ok (.iinc 3 1, 3) := by decide +kernel
theorem d_Mod_nodes_35 : decode b_Mod_nodes 35 = .ok (.goto (-21), 3) := by decide +kernel
theorem d_Mod_nodes_38 : decode b_Mod_nodes 38 = .ok (.iload_n 2, 1) := by decide +kernel
theorem d_Mod_nodes_39 : decode b_Mod_nodes 39 = .ok (.ireturn, 1) := by decide +kernel
theorem d_Mod_row_0 : decode b_Mod_row 0 = .ok (.aload_n 0, 1) := by decide +kernel
theorem d_Mod_row_1 : decode b_Mod_row 1 = .ok (.iload_n 1, 1) := by decide +kernel
theorem d_Mod_row_2 : decode b_Mod_row 2 = .ok (.invokevirtual 55, 3) := by decide +kernel
theorem d_Mod_row_5 : decode b_Mod_row 5 = .ok (.ifCond .eq 36, 3) := by decide +kernel
theorem d_Mod_row_8 : decode b_Mod_row 8 = .ok (.iload_n 2, 1) := by decide +kernel
theorem d_Mod_row_9 : decode b_Mod_row 9 = .ok (.iconst 1, 1) := by decide +kernel
theorem d_Mod_row_10 : decode b_Mod_row 10 = .ok (.if_icmp .lt 31, 3) := by decide +kernel
theorem d_Mod_row_13 : decode b_Mod_row 13 = .ok (.iload_n 2, 1) := by decide +kernel
theorem d_Mod_row_14 : decode b_Mod_row 14 = .ok (.aload_n 0, 1) := by decide +kernel
theorem d_Mod_row_15 : decode b_Mod_row 15 = .ok (.getfield 20, 3) := by decide +kernel
theorem d_Mod_row_18 : decode b_Mod_row 18 = .ok (.iload_n 1, 1) := by decide +kernel
theorem d_Mod_row_19 : decode b_Mod_row 19 = .ok (.iaload, 1) := by decide +kernel
theorem d_Mod_row_20 : decode b_Mod_row 20 = .ok (.if_icmp .gt 21, 3) := by decide +kernel
theorem d_Mod_row_23 : decode b_Mod_row 23 = .ok (.iload_n 3, 1) := by decide +kernel
theorem d_Mod_row_24 : decode b_Mod_row 24 = .ok (.ifCond .lt 17, 3) := by decide +kernel
theorem d_Mod_row_27 : decode b_Mod_row 27 = .ok (.iload_n 3, 1) := by decide +kernel
theorem d_Mod_row_28 : decode b_Mod_row 28 = .ok (.aload_n 0, 1) := by decide +kernel
theorem d_Mod_row_29 : decode b_Mod_row 29 = .ok (.getfield 23, 3) := by decide +kernel
theorem d_Mod_row_32 : decode b_Mod_row 32 = .ok (.iconst 5, 1) := by decide +kernel
theorem d_Mod_row_33 : decode b_Mod_row 33 = .ok (.iload_n 1, 1) := by decide +kernel
theorem d_Mod_row_34 : decode b_Mod_row 34 = .ok (.imul, 1) := by decide +kernel
theorem d_Mod_row_35 : decode b_Mod_row 35 = .ok (.iload_n 2, 1) := by decide +kernel
theorem d_Mod_row_36 : decode b_Mod_row 36 = .ok (.iadd, 1) := by decide +kernel
theorem d_Mod_row_37 : decode b_Mod_row 37 = .ok (.iaload, 1) := by decide +kernel
theorem d_Mod_row_38 : decode b_Mod_row 38 = .ok (.if_icmp .lt 5, 3) := by decide +kernel
theorem d_Mod_row_41 : decode b_Mod_row 41 = .ok (.iconst (-1), 1) := by decide +kernel
theorem d_Mod_row_42 : decode b_Mod_row 42 = .ok (.ireturn, 1) := by decide +kernel
theorem d_Mod_row_43 : decode b_Mod_row 43 = .ok (.aload_n 0, 1) := by decide +kernel
theorem d_Mod_row_44 : decode b_Mod_row 44 = .ok (.getfield 13, 3) := by decide +kernel
theorem d_Mod_row_47 : decode b_Mod_row 47 = .ok (.sipush 320, 3) := by decide +kernel
theorem d_Mod_row_50 : decode b_Mod_row 50 = .ok (.iload_n 1, 1) := by decide +kernel
theorem d_Mod_row_51 : decode b_Mod_row 51 = .ok (.imul, 1) := by decide +kernel
theorem d_Mod_row_52 : decode b_Mod_row 52 = .ok (.bipush 80, 2) := by decide +kernel
theorem d_Mod_row_54 : decode b_Mod_row 54 = .ok (.iload_n 2, 1) := by decide +kernel
theorem d_Mod_row_55 : decode b_Mod_row 55 = .ok (.iconst 1, 1) := by decide +kernel
theorem d_Mod_row_56 : decode b_Mod_row 56 = .ok (.isub, 1) := by decide +kernel
theorem d_Mod_row_57 : decode b_Mod_row 57 = .ok (.imul, 1) := by decide +kernel
theorem d_Mod_row_58 : decode b_Mod_row 58 = .ok (.iadd, 1) := by decide +kernel
theorem d_Mod_row_59 : decode b_Mod_row 59 = .ok (.iload_n 3, 1) := by decide +kernel
theorem d_Mod_row_60 : decode b_Mod_row 60 = .ok (.iadd, 1) := by decide +kernel
theorem d_Mod_row_61 : decode b_Mod_row 61 = .ok (.baload, 1) := by decide +kernel
theorem d_Mod_row_62 : decode b_Mod_row 62 = .ok (.ireturn, 1) := by decide +kernel
theorem d_Mod_probes_0 : decode b_Mod_probes 0 = .ok (.aload_n 0, 1) := by decide +kernel
theorem d_Mod_probes_1 : decode b_Mod_probes 1 = .ok (.iload_n 1, 1) := by decide +kernel
theorem d_Mod_probes_2 : decode b_Mod_probes 2 = .ok (.invokevirtual 55, 3) := by decide +kernel
theorem d_Mod_probes_5 : decode b_Mod_probes 5 = .ok (.ifCond .eq 17, 3) := by decide +kernel
theorem d_Mod_probes_8 : decode b_Mod_probes 8 = .ok (.iload_n 2, 1) := by decide +kernel
theorem d_Mod_probes_9 : decode b_Mod_probes 9 = .ok (.ifCond .lt 13, 3) := by decide +kernel
theorem d_Mod_probes_12 : decode b_Mod_probes 12 = .ok (.iload_n 2, 1) := by decide +kernel
theorem d_Mod_probes_13 : decode b_Mod_probes 13 = .ok (.aload_n 0, 1) := by decide +kernel
theorem d_Mod_probes_14 : decode b_Mod_probes 14 = .ok (.getfield 17, 3) := by decide +kernel
theorem d_Mod_probes_17 : decode b_Mod_probes 17 = .ok (.iload_n 1, 1) := by decide +kernel
theorem d_Mod_probes_18 : decode b_Mod_probes 18 = .ok (.iaload, 1) := by decide +kernel
theorem d_Mod_probes_19 : decode b_Mod_probes 19 = .ok (.if_icmp .lt 5, 3) := by decide +kernel
theorem d_Mod_probes_22 : decode b_Mod_probes 22 = .ok (.iconst (-1), 1) := by decide +kernel
theorem d_Mod_probes_23 : decode b_Mod_probes 23 = .ok (.ireturn, 1) := by decide +kernel
theorem d_Mod_probes_24 : decode b_Mod_probes 24 = .ok (.iconst 0, 1) := by decide +kernel
theorem d_Mod_probes_25 : decode b_Mod_probes 25 = .ok (.istore_n 3, 1) := by decide +kernel
theorem d_Mod_probes_26 : decode b_Mod_probes 26 = .ok (.aload_n 0, 1) := by decide +kernel
theorem d_Mod_probes_27 : decode b_Mod_probes 27 = .ok (.iload_n 1, 1) := by decide +kernel
theorem d_Mod_probes_28 : decode b_Mod_probes 28 = .ok (.iconst 1, 1) := by decide +kernel
theorem d_Mod_probes_29 : decode b_Mod_probes 29 = .ok (.iload_n 2, 1) := by decide +kernel
theorem d_Mod_probes_30 : decode b_Mod_probes 30 = .ok (.invokevirtual 115, 3) := by decide +kernel
theorem d_Mod_probes_33 : decode b_Mod_probes 33 = .ok (.istore 4, 2) := by decide +kernel
theorem d_Mod_probes_35 : decode b_Mod_probes 35 = .ok (.iconst 1, 1) := by decide +kernel
theorem d_Mod_probes_36 : decode b_Mod_probes 36 = .ok (.istore 5, 2) := by decide +kernel
theorem d_Mod_probes_38 : decode b_Mod_probes 38 = .ok (.iconst 2, 1) := by decide +kernel
theorem d_Mod_probes_39 : decode b_Mod_probes 39 = .ok (.istore 6, 2) := by decide +kernel
theorem d_Mod_probes_41 : decode b_Mod_probes 41 = .ok (.iload 6, 2) := by decide +kernel
theorem d_Mod_probes_43 : decode b_Mod_probes 43 = .ok (.aload_n 0, 1) := by decide +kernel
theorem d_Mod_probes_44 : decode b_Mod_probes 44 = .ok (.getfield 20, 3) := by decide +kernel
theorem d_Mod_probes_47 : decode b_Mod_probes 47 = .ok (.iload_n 1, 1) := by decide +kernel
theorem d_Mod_probes_48 : decode b_Mod_probes 48 = .ok (.iaload, 1) := by decide +kernel
theorem d_Mod_probes_49 : decode b_Mod_probes 49 = .ok (.if_icmp .gt 84, 3) := by decide +kernel
theorem d_Mod_probes_52 : decode b_Mod_probes 52 = .ok (.iconst 4, 1) := by decide +kernel
theorem d_Mod_probes_53 : decode b_Mod_probes 53 = .ok (.iload 5, 2) := by decide +kernel
theorem d_Mod_probes_55 : decode b_Mod_probes 55 = .ok (.imul, 1) := by decide +kernel
theorem d_Mod_probes_56 : decode b_Mod_probes 56 = .ok (.istore 5, 2) := by decide +kernel
theorem d_Mod_probes_58 : decode b_Mod_probes 58 = .ok (.aload_n 0, 1) := by decide +kernel
theorem d_Mod_probes_59 : decode b_Mod_probes 59 = .ok (.iload_n 1, 1) := by decide +kernel
theorem d_Mod_probes_60 : decode b_Mod_probes 60 = .ok (.iload 6, 2) := by decide +kernel
theorem d_Mod_probes_62 : decode b_Mod_probes 62 = .ok (.iload 4, 2) := by decide +kernel
theorem d_Mod_probes_64 : decode b_Mod_probes 64 = .ok (.invokevirtual 115, 3) := by decide +kernel
theorem d_Mod_probes_67 : decode b_Mod_probes 67 = .ok (.istore 7, 2) := by decide +kernel
theorem d_Mod_probes_69 : decode b_Mod_probes 69 = .ok (.iload 7, 2) := by decide +kernel
theorem d_Mod_probes_71 : decode b_Mod_probes 71 = .ok (.istore 8, 2) := by decide +kernel
theorem d_Mod_probes_73 : decode b_Mod_probes 73 = .ok (.iload 6, 2) := by decide +kernel
theorem d_Mod_probes_75 : decode b_Mod_probes 75 = .ok (.istore 9, 2) := by decide +kernel
theorem d_Mod_probes_77 : decode b_Mod_probes 77 = .ok (.iload 9, 2) := by decide +kernel
theorem d_Mod_probes_79 : decode b_Mod_probes 79 = .ok (.iconst 1, 1) := by decide +kernel
theorem d_Mod_probes_80 : decode b_Mod_probes 80 = .ok (.if_icmp .lt 20, 3) := by decide +kernel
theorem d_Mod_probes_83 : decode b_Mod_probes 83 = .ok (.aload_n 0, 1) := by decide +kernel
theorem d_Mod_probes_84 : decode b_Mod_probes 84 = .ok (.iload_n 1, 1) := by decide +kernel
theorem d_Mod_probes_85 : decode b_Mod_probes 85 = .ok (.iload 9, 2) := by decide +kernel
theorem d_Mod_probes_87 : decode b_Mod_probes 87 = .ok (.iload 8, 2) := by decide +kernel
theorem d_Mod_probes_89 : decode b_Mod_probes 89 = .ok (.invokevirtual 112, 3) := by decide +kernel
theorem d_Mod_probes_92 : decode b_Mod_probes 92 = .ok (.istore 8, 2) := by decide +kernel
theorem d_Mod_probes_94 : decode b_Mod_probes 94 = .ok (.iinc 9 (-1), 3) := by decide +kernel
theorem d_Mod_probes_97 : decode b_Mod_probes 97 = .ok (.goto (-20), 3) := by decide +kernel
theorem d_Mod_probes_100 : decode b_Mod_probes 100 = .ok (.iload_n 3, 1) := by decide +kernel
theorem d_Mod_probes_101 : decode b_Mod_probes 101 = .ok (.iload 4, 2) := by decide +kernel
theorem d_Mod_probes_103 : decode b_Mod_probes 103 = .ok (.aload_n 0, 1) := by decide +kernel
theorem d_Mod_probes_104 : decode b_Mod_probes 104 = .ok (.iload_n 1, 1) := by decide +kernel
theorem d_Mod_probes_105 : decode b_Mod_probes 105 = .ok (.iload 6, 2) := by decide +kernel
theorem d_Mod_probes_107 : decode b_Mod_probes 107 = .ok (.iload 7, 2) := by decide +kernel
theorem d_Mod_probes_109 : decode b_Mod_probes 109 = .ok (.invokevirtual 112, 3) := by decide +kernel
theorem d_Mod_probes_112 : decode b_Mod_probes 112 = .ok (.isub, 1) := by decide +kernel
theorem d_Mod_probes_113 : decode b_Mod_probes 113 = .ok (.iload_n 2, 1) := by decide +kernel
theorem d_Mod_probes_114 : decode b_Mod_probes 114 = .ok (.iload 8, 2) := by decide +kernel
theorem d_Mod_probes_116 : decode b_Mod_probes 116 = .ok (.isub, 1) := by decide +kernel
theorem d_Mod_probes_117 : decode b_Mod_probes 117 = .ok (.iload 5, 2) := by decide +kernel
theorem d_Mod_probes_119 : decode b_Mod_probes 119 = .ok (.idiv, 1) := by decide +kernel
theorem d_Mod_probes_120 : decode b_Mod_probes 120 = .ok (.isub, 1) := by decide +kernel
theorem d_Mod_probes_121 : decode b_Mod_probes 121 = .ok (.iadd, 1) := by decide +kernel
theorem d_Mod_probes_122 : decode b_Mod_probes 122 = .ok (.istore_n 3, 1) := by decide +kernel
theorem d_Mod_probes_123 : decode b_Mod_probes 123 = .ok (.iload 7, 2) := by decide +kernel
theorem d_Mod_probes_125 : decode b_Mod_probes 125 = .ok (.istore 4, 2) := by decide +kernel
theorem d_Mod_probes_127 : decode b_Mod_probes 127 = .ok (.iinc 6 1, 3) := by decide +kernel
theorem d_Mod_probes_130 : decode b_Mod_probes 130 = .ok (.goto (-89), 3) := by decide +kernel
theorem d_Mod_probes_133 : decode b_Mod_probes 133 = .ok (.iload_n 3, 1) := by decide +kernel
theorem d_Mod_probes_134 : decode b_Mod_probes 134 = .ok (.ireturn, 1) := by decide +kernel
theorem d_Mod_holding_0 : decode b_Mod_holding 0 = .ok (.iconst 0, 1) := by decide +kernel
theorem d_Mod_holding_1 : decode b_Mod_holding 1 = .ok (.istore 4, 2) := by decide +kernel
theorem d_Mod_holding_3 : decode b_Mod_holding 3 = .ok (.iload 4, 2) := by decide +kernel
theorem d_Mod_holding_5 : decode b_Mod_holding 5 = .ok (.iconst 1, 1) := by decide +kernel
theorem d_Mod_holding_6 : decode b_Mod_holding 6 = .ok (.iadd, 1) := by decide +kernel
theorem d_Mod_holding_7 : decode b_Mod_holding 7 = .ok (.aload_n 0, 1) := by decide +kernel
theorem d_Mod_holding_8 : decode b_Mod_holding 8 = .ok (.getfield 23, 3) := by decide +kernel
theorem d_Mod_holding_11 : decode b_Mod_holding 11 = .ok (.iconst 5, 1) := by decide +kernel
theorem d_Mod_holding_12 : decode b_Mod_holding 12 = .ok (.iload_n 1, 1) := by decide +kernel
theorem d_Mod_holding_13 : decode b_Mod_holding 13 = .ok (.imul, 1) := by decide +kernel
theorem d_Mod_holding_14 : decode b_Mod_holding 14 = .ok (.iload_n 2, 1) := by decide +kernel
theorem d_Mod_holding_15 : decode b_Mod_holding 15 = .ok (.iadd, 1) := by decide +kernel
theorem d_Mod_holding_16 : decode b_Mod_holding 16 = .ok (.iaload, 1) := by decide +kernel
theorem d_Mod_holding_17 : decode b_Mod_holding 17 = .ok (.if_icmp .ge 23, 3) := by decide +kernel
theorem d_Mod_holding_20 : decode b_Mod_holding 20 = .ok (.aload_n 0, 1) := by decide +kernel
theorem d_Mod_holding_21 : decode b_Mod_holding 21 = .ok (.iload_n 1, 1) := by decide +kernel
theorem d_Mod_holding_22 : decode b_Mod_holding 22 = .ok (.iload_n 2, 1) := by decide +kernel
theorem d_Mod_holding_23 : decode b_Mod_holding 23 = .ok (.iload 4, 2) := by decide +kernel
theorem d_Mod_holding_25 : decode b_Mod_holding 25 = .ok (.iconst 1, 1) := by decide +kernel
theorem d_Mod_holding_26 : decode b_Mod_holding 26 = .ok (.iadd, 1) := by decide +kernel
theorem d_Mod_holding_27 : decode b_Mod_holding 27 = .ok (.invokevirtual 112, 3) := by decide +kernel
theorem d_Mod_holding_30 : decode b_Mod_holding 30 = .ok (.iload_n 3, 1) := by decide +kernel
theorem d_Mod_holding_31 : decode b_Mod_holding 31 = .ok (.if_icmp .gt 9, 3) := by decide +kernel
theorem d_Mod_holding_34 : decode b_Mod_holding 34 = .ok (.iinc 4 1, 3) := by decide +kernel
theorem d_Mod_holding_37 : decode b_Mod_holding 37 = .ok (.goto (-34), 3) := by decide +kernel
theorem d_Mod_holding_40 : decode b_Mod_holding 40 = .ok (.iload 4, 2) := by decide +kernel
theorem d_Mod_holding_42 : decode b_Mod_holding 42 = .ok (.ireturn, 1) := by decide +kernel
theorem d_Mod_before_0 : decode b_Mod_before 0 = .ok (.iconst 0, 1) := by decide +kernel
theorem d_Mod_before_1 : decode b_Mod_before 1 = .ok (.istore 4, 2) := by decide +kernel
theorem d_Mod_before_3 : decode b_Mod_before 3 = .ok (.iconst 0, 1) := by decide +kernel
theorem d_Mod_before_4 : decode b_Mod_before 4 = .ok (.istore 5, 2) := by decide +kernel
theorem d_Mod_before_6 : decode b_Mod_before 6 = .ok (.iload 5, 2) := by decide +kernel
theorem d_Mod_before_8 : decode b_Mod_before 8 = .ok (.iload_n 3, 1) := by decide +kernel
theorem d_Mod_before_9 : decode b_Mod_before 9 = .ok (.if_icmp .ge 34, 3) := by decide +kernel
theorem d_Mod_before_12 : decode b_Mod_before 12 = .ok (.iload 4, 2) := by decide +kernel
theorem d_Mod_before_14 : decode b_Mod_before 14 = .ok (.aload_n 0, 1) := by decide +kernel
theorem d_Mod_before_15 : decode b_Mod_before 15 = .ok (.getfield 13, 3) := by decide +kernel
theorem d_Mod_before_18 : decode b_Mod_before 18 = .ok (.sipush 320, 3) := by decide +kernel
theorem d_Mod_before_21 : decode b_Mod_before 21 = .ok (.iload_n 1, 1) := by decide +kernel
theorem d_Mod_before_22 : decode b_Mod_before 22 = .ok (.imul, 1) := by decide +kernel
theorem d_Mod_before_23 : decode b_Mod_before 23 = .ok (.bipush 80, 2) := by decide +kernel
theorem d_Mod_before_25 : decode b_Mod_before 25 = .ok (.iload_n 2, 1) := by decide +kernel
theorem d_Mod_before_26 : decode b_Mod_before 26 = .ok (.iconst 1, 1) := by decide +kernel
theorem d_Mod_before_27 : decode b_Mod_before 27 = .ok (.isub, 1) := by decide +kernel
theorem d_Mod_before_28 : decode b_Mod_before 28 = .ok (.imul, 1) := by decide +kernel
theorem d_Mod_before_29 : decode b_Mod_before 29 = .ok (.iadd, 1) := by decide +kernel
theorem d_Mod_before_30 : decode b_Mod_before 30 = .ok (.iload 5, 2) := by decide +kernel
theorem d_Mod_before_32 : decode b_Mod_before 32 = .ok (.iadd, 1) := by decide +kernel
theorem d_Mod_before_33 : decode b_Mod_before 33 = .ok (.baload, 1) := by decide +kernel
theorem d_Mod_before_34 : decode b_Mod_before 34 = .ok (.iadd, 1) := by decide +kernel
theorem d_Mod_before_35 : decode b_Mod_before 35 = .ok (.istore 4, 2) := by decide +kernel
theorem d_Mod_before_37 : decode b_Mod_before 37 = .ok (.iinc 5 1, 3) := by decide +kernel
theorem d_Mod_before_40 : decode b_Mod_before 40 = .ok (.goto (-34), 3) := by decide +kernel
theorem d_Mod_before_43 : decode b_Mod_before 43 = .ok (.iload 4, 2) := by decide +kernel
theorem d_Mod_before_45 : decode b_Mod_before 45 = .ok (.ireturn, 1) := by decide +kernel
