theorem d_La_cell_0 : decode b_La_cell 0 = .ok (.iload_n 1, 1) := by decide +kernel
theorem d_La_cell_1 : decode b_La_cell 1 = .ok (.aload_n 0, 1) := by decide +kernel
theorem d_La_cell_2 : decode b_La_cell 2 = .ok (.arraylength, 1) := by decide +kernel
theorem d_La_cell_3 : decode b_La_cell 3 = .ok (.if_icmp .ge 9, 3) := by decide +kernel
theorem d_La_cell_6 : decode b_La_cell 6 = .ok (.aload_n 0, 1) := by decide +kernel
theorem d_La_cell_7 : decode b_La_cell 7 = .ok (.iload_n 1, 1) := by decide +kernel
theorem d_La_cell_8 : decode b_La_cell 8 = .ok (.iaload, 1) := by decide +kernel
theorem d_La_cell_9 : decode b_La_cell 9 = .ok (.goto 4, 3) := by decide +kernel
theorem d_La_cell_12 : decode b_La_cell 12 = .ok (.iconst 0, 1) := by decide +kernel
theorem d_La_cell_13 : decode b_La_cell 13 = .ok (.ireturn, 1) := by decide +kernel
theorem d_La_law_0 : decode b_La_law 0 = .ok (.new 7, 3) := by decide +kernel
theorem d_La_law_3 : decode b_La_law 3 = .ok (.dup, 1) := by decide +kernel
theorem d_La_law_4 : decode b_La_law 4 = .ok (.aload_n 0, 1) := by decide +kernel
theorem d_La_law_5 : decode b_La_law 5 = .ok (.iconst 0, 1) := by decide +kernel
theorem d_La_law_6 : decode b_La_law 6 = .ok (.invokestatic 9, 3) := by decide +kernel
theorem d_La_law_9 : decode b_La_law 9 = .ok (.invokespecial 15, 3) := by decide +kernel
theorem d_La_law_12 : decode b_La_law 12 = .ok (.astore_n 1, 1) := by decide +kernel
theorem d_La_law_13 : decode b_La_law 13 = .ok (.new 18, 3) := by decide +kernel
theorem d_La_law_16 : decode b_La_law 16 = .ok (.dup, 1) := by decide +kernel
theorem d_La_law_17 : decode b_La_law 17 = .ok (.aload_n 0, 1) := by decide +kernel
theorem d_La_law_18 : decode b_La_law 18 = .ok (.iconst 0, 1) := by decide +kernel
theorem d_La_law_19 : decode b_La_law 19 = .ok (.invokestatic 9, 3) := by decide +kernel
theorem d_La_law_22 : decode b_La_law 22 = .ok (.invokespecial 20, 3) := by decide +kernel
theorem d_La_law_25 : decode b_La_law 25 = .ok (.astore_n 2, 1) := by decide +kernel
theorem d_La_law_26 : decode b_La_law 26 = .ok (.iconst 1, 1) := by decide +kernel
theorem d_La_law_27 : decode b_La_law 27 = .ok (.istore_n 3, 1) := by decide +kernel
theorem d_La_law_28 : decode b_La_law 28 = .ok (.iload_n 3, 1) := by decide +kernel
theorem d_La_law_29 : decode b_La_law 29 = .ok (.aload_n 0, 1) := by decide +kernel
theorem d_La_law_30 : decode b_La_law 30 = .ok (.arraylength, 1) := by decide +kernel
theorem d_La_law_31 : decode b_La_law 31 = .ok (.iconst 5, 1) := by decide +kernel
theorem d_La_law_32 : decode b_La_law 32 = .ok (.isub, 1) := by decide +kernel
theorem d_La_law_33 : decode b_La_law 33 = .ok (.if_icmp .gt 408, 3) := by decide +kernel
theorem d_La_law_36 : decode b_La_law 36 = .ok (.aload_n 0, 1) := by decide +kernel
theorem d_La_law_37 : decode b_La_law 37 = .ok (.iload_n 3, 1) := by decide +kernel
theorem d_La_law_38 : decode b_La_law 38 = .ok (.iaload, 1) := by decide +kernel
theorem d_La_law_39 : decode b_La_law 39 = .ok (.bipush 15, 2) := by decide +kernel
theorem d_La_law_41 : decode b_La_law 41 = .ok (.iand, 1) := by decide +kernel
theorem d_La_law_42 : decode b_La_law 42 = .ok (.tableswitch 393 0 10 #[58, 121, 145, 158, 171, 244, 297, 310, 323, 336, 369], 58) := by decide +kernel
theorem d_La_law_100 : decode b_La_law 100 = .ok (.aload_n 1, 1) := by decide +kernel
theorem d_La_law_101 : decode b_La_law 101 = .ok (.aload_n 0, 1) := by decide +kernel
theorem d_La_law_102 : decode b_La_law 102 = .ok (.iload_n 3, 1) := by decide +kernel
theorem d_La_law_103 : decode b_La_law 103 = .ok (.iconst 1, 1) := by decide +kernel
theorem d_La_law_104 : decode b_La_law 104 = .ok (.iadd, 1) := by decide +kernel
theorem d_La_law_105 : decode b_La_law 105 = .ok (.iaload, 1) := by decide +kernel
theorem d_La_law_106 : decode b_La_law 106 = .ok (.aload_n 0, 1) := by decide +kernel
theorem d_La_law_107 : decode b_La_law 107 = .ok (.iload_n 3, 1) := by decide +kernel
theorem d_La_law_108 : decode b_La_law 108 = .ok (.iconst 2, 1) := by decide +kernel
theorem d_La_law_109 : decode b_La_law 109 = .ok (.iadd, 1) := by decide +kernel
theorem d_La_law_110 : decode b_La_law 110 = .ok (.iaload, 1) := by decide +kernel
theorem d_La_law_111 : decode b_La_law 111 = .ok (.i2l, 1) := by decide +kernel
theorem d_La_law_112 : decode b_La_law 112 = .ok (.bipush 32, 2) := by decide +kernel
theorem d_La_law_114 : decode b_La_law 114 = .ok (.lshl, 1) := by decide +kernel
theorem d_La_law_115 : decode b_La_law 115 = .ok (.aload_n 0, 1) := by decide +kernel
theorem d_La_law_116 : decode b_La_law 116 = .ok (.iload_n 3, 1) := by decide +kernel
theorem d_La_law_117 : decode b_La_law 117 = .ok (.iconst 3, 1) := by decide +kernel
theorem d_La_law_118 : decode b_La_law 118 = .ok (.iadd, 1) := by decide +kernel
theorem d_La_law_119 : decode b_La_law 119 = .ok (.iaload, 1) := by decide +kernel
theorem d_La_law_120 : decode b_La_law 120 = .ok (.i2l, 1) := by decide +kernel
theorem d_La_law_121 : decode b_La_law 121 = .ok (.ldc2_w 21, 3) := by decide +kernel
theorem d_La_law_124 : decode b_La_law 124 = .ok (.land, 1) := by decide +kernel
theorem d_La_law_125 : decode b_La_law 125 = .ok (.lor, 1) := by decide +kernel
theorem d_La_law_126 : decode b_La_law 126 = .ok (.invokevirtual 23, 3) := by decide +kernel
theorem d_La_law_129 : decode b_La_law 129 = .ok (.aload_n 2, 1) := by decide +kernel
theorem d_La_law_130 : decode b_La_law 130 = .ok (.aload_n 0, 1) := by decide +kernel
theorem d_La_law_131 : decode b_La_law 131 = .ok (.iload_n 3, 1) := by decide +kernel
theorem d_La_law_132 : decode b_La_law 132 = .ok (.iconst 1, 1) := by decide +kernel
theorem d_La_law_133 : decode b_La_law 133 = .ok (.iadd, 1) := by decide +kernel
theorem d_La_law_134 : decode b_La_law 134 = .ok (.iaload, 1) := by decide +kernel
theorem d_La_law_135 : decode b_La_law 135 = .ok (.aload_n 0, 1) := by decide +kernel
theorem d_La_law_136 : decode b_La_law 136 = .ok (.iload_n 3, 1) := by decide +kernel
theorem d_La_law_137 : decode b_La_law 137 = .ok (.iconst 2, 1) := by decide +kernel
theorem d_La_law_138 : decode b_La_law 138 = .ok (.iadd, 1) := by decide +kernel
theorem d_La_law_139 : decode b_La_law 139 = .ok (.iaload, 1) := by decide +kernel
theorem d_La_law_140 : decode b_La_law 140 = .ok (.i2l, 1) := by decide +kernel
theorem d_La_law_141 : decode b_La_law 141 = .ok (.bipush 32, 2) := by decide +kernel
theorem d_La_law_143 : decode b_La_law 143 = .ok (.lshl, 1) := by decide +kernel
theorem d_La_law_144 : decode b_La_law 144 = .ok (.aload_n 0, 1) := by decide +kernel
theorem d_La_law_145 : decode b_La_law 145 = .ok (.iload_n 3, 1) := by decide +kernel
theorem d_La_law_146 : decode b_La_law 146 = .ok (.iconst 3, 1) := by decide +kernel
theorem d_La_law_147 : decode b_La_law 147 = .ok (.iadd, 1) := by decide +kernel
theorem d_La_law_148 : decode b_La_law 148 = .ok (.iaload, 1) := by decide +kernel
theorem d_La_law_149 : decode b_La_law 149 = .ok (.i2l, 1) := by decide +kernel
theorem d_La_law_150 : decode b_La_law 150 = .ok (.ldc2_w 21, 3) := by decide +kernel
theorem d_La_law_153 : decode b_La_law 153 = .ok (.land, 1) := by decide +kernel
theorem d_La_law_154 : decode b_La_law 154 = .ok (.lor, 1) := by decide +kernel
theorem d_La_law_155 : decode b_La_law 155 = .ok (.invokevirtual 27, 3) := by decide +kernel
theorem d_La_law_158 : decode b_La_law 158 = .ok (.if_icmp .eq 277, 3) := by decide +kernel
theorem d_La_law_161 : decode b_La_law 161 = .ok (.iconst 0, 1) := by decide +kernel
theorem d_La_law_162 : decode b_La_law 162 = .ok (.ireturn, 1) := by decide +kernel
theorem d_La_law_163 : decode b_La_law 163 = .ok (.aload_n 1, 1) := by decide +kernel
theorem d_La_law_164 : decode b_La_law 164 = .ok (.aload_n 0, 1) := by decide +kernel
theorem d_La_law_165 : decode b_La_law 165 = .ok (.iload_n 3, 1) := by decide +kernel
theorem d_La_law_166 : decode b_La_law 166 = .ok (.iconst 1, 1) := by decide +kernel
theorem d_La_law_167 : decode b_La_law 167 = .ok (.iadd, 1) := by decide +kernel
theorem d_La_law_168 : decode b_La_law 168 = .ok (.iaload, 1) := by decide +kernel
theorem d_La_law_169 : decode b_La_law 169 = .ok (.invokevirtual 28, 3) := by decide +kernel
theorem d_La_law_172 : decode b_La_law 172 = .ok (.aload_n 2, 1) := by decide +kernel
theorem d_La_law_173 : decode b_La_law 173 = .ok (.aload_n 0, 1) := by decide +kernel
theorem d_La_law_174 : decode b_La_law 174 = .ok (.iload_n 3, 1) := by decide +kernel
theorem d_La_law_175 : decode b_La_law 175 = .ok (.iconst 1, 1) := by decide +kernel
theorem d_La_law_176 : decode b_La_law 176 = .ok (.iadd, 1) := by decide +kernel
theorem d_La_law_177 : decode b_La_law 177 = .ok (.iaload, 1) := by decide +kernel
theorem d_La_law_178 : decode b_La_law 178 = .ok (.invokevirtual 32, 3) := by decide +kernel
theorem d_La_law_181 : decode b_La_law 181 = .ok (.lcmp, 1) := by decide +kernel
theorem d_La_law_182 : decode b_La_law 182 = .ok (.ifCond .eq 253, 3) := by decide +kernel
theorem d_La_law_185 : decode b_La_law 185 = .ok (.iconst 0, 1) := by decide +kernel
theorem d_La_law_186 : decode b_La_law 186 = .ok (.ireturn, 1) := by decide +kernel
theorem d_La_law_187 : decode b_La_law 187 = .ok (.aload_n 1, 1) := by decide +kernel
theorem d_La_law_188 : decode b_La_law 188 = .ok (.invokevirtual 33, 3) := by decide +kernel
theorem d_La_law_191 : decode b_La_law 191 = .ok (.aload_n 2, 1) := by decide +kernel
theorem d_La_law_192 : decode b_La_law 192 = .ok (.invokevirtual 37, 3) := by decide +kernel
theorem d_La_law_195 : decode b_La_law 195 = .ok (.if_icmp .eq 240, 3) := by decide +kernel
theorem d_La_law_198 : decode b_La_law 198 = .ok (.iconst 0, 1) := by decide +kernel
theorem d_La_law_199 : decode b_La_law 199 = .ok (.ireturn, 1) := by decide +kernel
theorem d_La_law_200 : decode b_La_law 200 = .ok (.aload_n 1, 1) := by decide +kernel
theorem d_La_law_201 : decode b_La_law 201 = .ok (.invokevirtual 38, 3) := by decide +kernel
theorem d_La_law_204 : decode b_La_law 204 = .ok (.aload_n 2, 1) := by decide +kernel
theorem d_La_law_205 : decode b_La_law 205 = .ok (.invokevirtual 41, 3) := by decide +kernel
theorem d_La_law_208 : decode b_La_law 208 = .ok (.if_icmp .eq 227, 3) := by decide +kernel
theorem d_La_law_211 : decode b_La_law 211 = .ok (.iconst 0, 1) := by decide +kernel
theorem d_La_law_212 : decode b_La_law 212 = .ok (.ireturn, 1) := by decide +kernel
theorem d_La_law_213 : decode b_La_law 213 = .ok (.aload_n 1, 1) := by decide +kernel
theorem d_La_law_214 : decode b_La_law 214 = .ok (.aload_n 0, 1) := by decide +kernel
theorem d_La_law_215 : decode b_La_law 215 = .ok (.iload_n 3, 1) := by decide +kernel
theorem d_La_law_216 : decode b_La_law 216 = .ok (.iconst 1, 1) := by decide +kernel
theorem d_La_law_217 : decode b_La_law 217 = .ok (.iadd, 1) := by decide +kernel
theorem d_La_law_218 : decode b_La_law 218 = .ok (.iaload, 1) := by decide +kernel
theorem d_La_law_219 : decode b_La_law 219 = .ok (.aload_n 0, 1) := by decide +kernel
theorem d_La_law_220 : decode b_La_law 220 = .ok (.iload_n 3, 1) := by decide +kernel
theorem d_La_law_221 : decode b_La_law 221 = .ok (.iconst 2, 1) := by decide +kernel
theorem d_La_law_222 : decode b_La_law 222 = .ok (.iadd, 1) := by decide +kernel
theorem d_La_law_223 : decode b_La_law 223 = .ok (.iaload, 1) := by decide +kernel
theorem d_La_law_224 : decode b_La_law 224 = .ok (.aload_n 0, 1) := by decide +kernel
theorem d_La_law_225 : decode b_La_law 225 = .ok (.iload_n 3, 1) := by decide +kernel
theorem d_La_law_226 : decode b_La_law 226 = .ok (.iconst 3, 1) := by decide +kernel
theorem d_La_law_227 : decode b_La_law 227 = .ok (.iadd, 1) := by decide +kernel
theorem d_La_law_228 : decode b_La_law 228 = .ok (.iaload, 1) := by decide +kernel
theorem d_La_law_229 : decode b_La_law 229 = .ok (.i2l, 1) := by decide +kernel
theorem d_La_law_230 : decode b_La_law 230 = .ok (.bipush 32, 2) := by decide +kernel
theorem d_La_law_232 : decode b_La_law 232 = .ok (.lshl, 1) := by decide +kernel
theorem d_La_law_233 : decode b_La_law 233 = .ok (.aload_n 0, 1) := by decide +kernel
theorem d_La_law_234 : decode b_La_law 234 = .ok (.iload_n 3, 1) := by decide +kernel
theorem d_La_law_235 : decode b_La_law 235 = .ok (.iconst 4, 1) := by decide +kernel
theorem d_La_law_236 : decode b_La_law 236 = .ok (.iadd, 1) := by decide +kernel
theorem d_La_law_237 : decode b_La_law 237 = .ok (.iaload, 1) := by decide +kernel
theorem d_La_law_238 : decode b_La_law 238 = .ok (.i2l, 1) := by decide +kernel
theorem d_La_law_239 : decode b_La_law 239 = .ok (.ldc2_w 21, 3) := by decide +kernel
theorem d_La_law_242 : decode b_La_law 242 = .ok (.land, 1) := by decide +kernel
theorem d_La_law_243 : decode b_La_law 243 = .ok (.lor, 1) := by decide +kernel
theorem d_La_law_244 : decode b_La_law 244 = .ok (.invokevirtual 42, 3) := by decide +kernel
theorem d_La_law_247 : decode b_La_law 247 = .ok (.aload_n 2, 1) := by decide +kernel
theorem d_La_law_248 : decode b_La_law 248 = .ok (.aload_n 0, 1) := by decide +kernel
theorem d_La_law_249 : decode b_La_law 249 = .ok (.iload_n 3, 1) := by decide +kernel
theorem d_La_law_250 : decode b_La_law 250 = .ok (.iconst 1, 1) := by decide +kernel
theorem d_La_law_251 : decode b_La_law 251 = .ok (.iadd, 1) := by decide +kernel
theorem d_La_law_252 : decode b_La_law 252 = .ok (.iaload, 1) := by decide +kernel
theorem d_La_law_253 : decode b_La_law 253 = .ok (.aload_n 0, 1) := by decide +kernel
theorem d_La_law_254 : decode b_La_law 254 = .ok (.iload_n 3, 1) := by decide +kernel
theorem d_La_law_255 : decode b_La_law 255 = .ok (.iconst 2, 1) := by decide +kernel
theorem d_La_law_256 : decode b_La_law 256 = .ok (.iadd, 1) := by decide +kernel
theorem d_La_law_257 : decode b_La_law 257 = .ok (.iaload, 1) := by decide +kernel
theorem d_La_law_258 : decode b_La_law 258 = .ok (.aload_n 0, 1) := by decide +kernel
theorem d_La_law_259 : decode b_La_law 259 = .ok (.iload_n 3, 1) := by decide +kernel
theorem d_La_law_260 : decode b_La_law 260 = .ok (.iconst 3, 1) := by decide +kernel
theorem d_La_law_261 : decode b_La_law 261 = .ok (.iadd, 1) := by decide +kernel
theorem d_La_law_262 : decode b_La_law 262 = .ok (.iaload, 1) := by decide +kernel
theorem d_La_law_263 : decode b_La_law 263 = .ok (.i2l, 1) := by decide +kernel
theorem d_La_law_264 : decode b_La_law 264 = .ok (.bipush 32, 2) := by decide +kernel
theorem d_La_law_266 : decode b_La_law 266 = .ok (.lshl, 1) := by decide +kernel
theorem d_La_law_267 : decode b_La_law 267 = .ok (.aload_n 0, 1) := by decide +kernel
theorem d_La_law_268 : decode b_La_law 268 = .ok (.iload_n 3, 1) := by decide +kernel
theorem d_La_law_269 : decode b_La_law 269 = .ok (.iconst 4, 1) := by decide +kernel
theorem d_La_law_270 : decode b_La_law 270 = .ok (.iadd, 1) := by decide +kernel
theorem d_La_law_271 : decode b_La_law 271 = .ok (.iaload, 1) := by decide +kernel
theorem d_La_law_272 : decode b_La_law 272 = .ok (.i2l, 1) := by decide +kernel
theorem d_La_law_273 : decode b_La_law 273 = .ok (.ldc2_w 21, 3) := by decide +kernel
theorem d_La_law_276 : decode b_La_law 276 = .ok (.land, 1) := by decide +kernel
theorem d_La_law_277 : decode b_La_law 277 = .ok (.lor, 1) := by decide +kernel
theorem d_La_law_278 : decode b_La_law 278 = .ok (.invokevirtual 46, 3) := by decide +kernel
theorem d_La_law_281 : decode b_La_law 281 = .ok (.if_icmp .eq 154, 3) := by decide +kernel
theorem d_La_law_284 : decode b_La_law 284 = .ok (.iconst 0, 1) := by decide +kernel
theorem d_La_law_285 : decode b_La_law 285 = .ok (.ireturn, 1) := by decide +kernel
theorem d_La_law_286 : decode b_La_law 286 = .ok (.aload_n 1, 1) := by decide +kernel
theorem d_La_law_287 : decode b_La_law 287 = .ok (.aload_n 0, 1) := by decide +kernel
theorem d_La_law_288 : decode b_La_law 288 = .ok (.iload_n 3, 1) := by decide +kernel
theorem d_La_law_289 : decode b_La_law 289 = .ok (.iconst 1, 1) := by decide +kernel
theorem d_La_law_290 : decode b_La_law 290 = .ok (.iadd, 1) := by decide +kernel
theorem d_La_law_291 : decode b_La_law 291 = .ok (.iaload, 1) := by decide +kernel
theorem d_La_law_292 : decode b_La_law 292 = .ok (.i2l, 1) := by decide +kernel
theorem d_La_law_293 : decode b_La_law 293 = .ok (.bipush 32, 2) := by decide +kernel
theorem d_La_law_295 : decode b_La_law 295 = .ok (.lshl, 1) := by decide +kernel
theorem d_La_law_296 : decode b_La_law 296 = .ok (.aload_n 0, 1) := by decide +kernel
theorem d_La_law_297 : decode b_La_law 297 = .ok (.iload_n 3, 1) := by decide +kernel
theorem d_La_law_298 : decode b_La_law 298 = .ok (.iconst 2, 1) := by decide +kernel
theorem d_La_law_299 : decode b_La_law 299 = .ok (.iadd, 1) := by decide +kernel
theorem d_La_law_300 : decode b_La_law 300 = .ok (.iaload, 1) := by decide +kernel
theorem d_La_law_301 : decode b_La_law 301 = .ok (.i2l, 1) := by decide +kernel
theorem d_La_law_302 : decode b_La_law 302 = .ok (.ldc2_w 21, 3) := by decide +kernel
theorem d_La_law_305 : decode b_La_law 305 = .ok (.land, 1) := by decide +kernel
theorem d_La_law_306 : decode b_La_law 306 = .ok (.lor, 1) := by decide +kernel
theorem d_La_law_307 : decode b_La_law 307 = .ok (.invokevirtual 47, 3) := by decide +kernel
theorem d_La_law_310 : decode b_La_law 310 = .ok (.aload_n 2, 1) := by decide +kernel
theorem d_La_law_311 : decode b_La_law 311 = .ok (.aload_n 0, 1) := by decide +kernel
theorem d_La_law_312 : decode b_La_law 312 = .ok (.iload_n 3, 1) := by decide +kernel
theorem d_La_law_313 : decode b_La_law 313 = .ok (.iconst 1, 1) := by decide +kernel
theorem d_La_law_314 : decode b_La_law 314 = .ok (.iadd, 1) := by decide +kernel
theorem d_La_law_315 : decode b_La_law 315 = .ok (.iaload, 1) := by decide +kernel
theorem d_La_law_316 : decode b_La_law 316 = .ok (.i2l, 1) := by decide +kernel
theorem d_La_law_317 : decode b_La_law 317 = .ok (.bipush 32, 2) := by decide +kernel
theorem d_La_law_319 : decode b_La_law 319 = .ok (.lshl, 1) := by decide +kernel
theorem d_La_law_320 : decode b_La_law 320 = .ok (.aload_n 0, 1) := by decide +kernel
theorem d_La_law_321 : decode b_La_law 321 = .ok (.iload_n 3, 1) := by decide +kernel
theorem d_La_law_322 : decode b_La_law 322 = .ok (.iconst 2, 1) := by decide +kernel
theorem d_La_law_323 : decode b_La_law 323 = .ok (.iadd, 1) := by decide +kernel
theorem d_La_law_324 : decode b_La_law 324 = .ok (.iaload, 1) := by decide +kernel
theorem d_La_law_325 : decode b_La_law 325 = .ok (.i2l, 1) := by decide +kernel
theorem d_La_law_326 : decode b_La_law 326 = .ok (.ldc2_w 21, 3) := by decide +kernel
theorem d_La_law_329 : decode b_La_law 329 = .ok (.land, 1) := by decide +kernel
theorem d_La_law_330 : decode b_La_law 330 = .ok (.lor, 1) := by decide +kernel
theorem d_La_law_331 : decode b_La_law 331 = .ok (.invokevirtual 51, 3) := by decide +kernel
theorem d_La_law_334 : decode b_La_law 334 = .ok (.if_icmp .eq 101, 3) := by decide +kernel
theorem d_La_law_337 : decode b_La_law 337 = .ok (.iconst 0, 1) := by decide +kernel
theorem d_La_law_338 : decode b_La_law 338 = .ok (.ireturn, 1) := by decide +kernel
theorem d_La_law_339 : decode b_La_law 339 = .ok (.aload_n 1, 1) := by decide +kernel
theorem d_La_law_340 : decode b_La_law 340 = .ok (.invokevirtual 52, 3) := by decide +kernel
theorem d_La_law_343 : decode b_La_law 343 = .ok (.aload_n 2, 1) := by decide +kernel
theorem d_La_law_344 : decode b_La_law 344 = .ok (.invokevirtual 55, 3) := by decide +kernel
theorem d_La_law_347 : decode b_La_law 347 = .ok (.if_icmp .eq 88, 3) := by decide +kernel
theorem d_La_law_350 : decode b_La_law 350 = .ok (.iconst 0, 1) := by decide +kernel
theorem d_La_law_351 : decode b_La_law 351 = .ok (.ireturn, 1) := by decide +kernel
theorem d_La_law_352 : decode b_La_law 352 = .ok (.aload_n 1, 1) := by decide +kernel
theorem d_La_law_353 : decode b_La_law 353 = .ok (.invokevirtual 56, 3) := by decide +kernel
theorem d_La_law_356 : decode b_La_law 356 = .ok (.aload_n 2, 1) := by decide +kernel
theorem d_La_law_357 : decode b_La_law 357 = .ok (.invokevirtual 59, 3) := by decide +kernel
theorem d_La_law_360 : decode b_La_law 360 = .ok (.if_icmp .eq 75, 3) := by decide +kernel
theorem d_La_law_363 : decode b_La_law 363 = .ok (.iconst 0, 1) := by decide +kernel
theorem d_La_law_364 : decode b_La_law 364 = .ok (.ireturn, 1) := by decide +kernel
theorem d_La_law_365 : decode b_La_law 365 = .ok (.aload_n 1, 1) := by decide +kernel
theorem d_La_law_366 : decode b_La_law 366 = .ok (.invokevirtual 60, 3) := by decide +kernel
theorem d_La_law_369 : decode b_La_law 369 = .ok (.aload_n 2, 1) := by decide +kernel
theorem d_La_law_370 : decode b_La_law 370 = .ok (.invokevirtual 63, 3) := by decide +kernel
theorem d_La_law_373 : decode b_La_law 373 = .ok (.if_icmp .eq 62, 3) := by decide +kernel
theorem d_La_law_376 : decode b_La_law 376 = .ok (.iconst 0, 1) := by decide +kernel
theorem d_La_law_377 : decode b_La_law 377 = .ok (.ireturn, 1) := by decide +kernel
theorem d_La_law_378 : decode b_La_law 378 = .ok (.aload_n 1, 1) := by decide +kernel
theorem d_La_law_379 : decode b_La_law 379 = .ok (.aload_n 0, 1) := by decide +kernel
theorem d_La_law_380 : decode b_La_law 380 = .ok (.iload_n 3, 1) := by decide +kernel
theorem d_La_law_381 : decode b_La_law 381 = .ok (.iconst 1, 1) := by decide +kernel
theorem d_La_law_382 : decode b_La_law 382 = .ok (.iadd, 1) := by decide +kernel
theorem d_La_law_383 : decode b_La_law 383 = .ok (.iaload, 1) := by decide +kernel
theorem d_La_law_384 : decode b_La_law 384 = .ok (.aload_n 0, 1) := by decide +kernel
theorem d_La_law_385 : decode b_La_law 385 = .ok (.iload_n 3, 1) := by decide +kernel
theorem d_La_law_386 : decode b_La_law 386 = .ok (.iconst 2, 1) := by decide +kernel
theorem d_La_law_387 : decode b_La_law 387 = .ok (.iadd, 1) := by decide +kernel
theorem d_La_law_388 : decode b_La_law 388 = .ok (.iaload, 1) := by decide +kernel
theorem d_La_law_389 : decode b_La_law 389 = .ok (.invokevirtual 64, 3) := by decide +kernel
theorem d_La_law_392 : decode b_La_law 392 = .ok (.aload_n 2, 1) := by decide +kernel
theorem d_La_law_393 : decode b_La_law 393 = .ok (.aload_n 0, 1) := by decide +kernel
theorem d_La_law_394 : decode b_La_law 394 = .ok (.iload_n 3, 1) := by decide +kernel
theorem d_La_law_395 : decode b_La_law 395 = .ok (.iconst 1, 1) := by decide +kernel
theorem d_La_law_396 : decode b_La_law 396 = .ok (.iadd, 1) := by decide +kernel
theorem d_La_law_397 : decode b_La_law 397 = .ok (.iaload, 1) := by decide +kernel
theorem d_La_law_398 : decode b_La_law 398 = .ok (.aload_n 0, 1) := by decide +kernel
theorem d_La_law_399 : decode b_La_law 399 = .ok (.iload_n 3, 1) := by decide +kernel
theorem d_La_law_400 : decode b_La_law 400 = .ok (.iconst 2, 1) := by decide +kernel
theorem d_La_law_401 : decode b_La_law 401 = .ok (.iadd, 1) := by decide +kernel
theorem d_La_law_402 : decode b_La_law 402 = .ok (.iaload, 1) := by decide +kernel
theorem d_La_law_403 : decode b_La_law 403 = .ok (.invokevirtual 68, 3) := by decide +kernel
theorem d_La_law_406 : decode b_La_law 406 = .ok (.if_icmp .eq 29, 3) := by decide +kernel
theorem d_La_law_409 : decode b_La_law 409 = .ok (.iconst 0, 1) := by decide +kernel
theorem d_La_law_410 : decode b_La_law 410 = .ok (.ireturn, 1) := by decide +kernel
theorem d_La_law_411 : decode b_La_law 411 = .ok (.aload_n 1, 1) := by decide +kernel
theorem d_La_law_412 : decode b_La_law 412 = .ok (.aload_n 0, 1) := by decide +kernel
theorem d_La_law_413 : decode b_La_law 413 = .ok (.iload_n 3, 1) := by decide +kernel
theorem d_La_law_414 : decode b_La_law 414 = .ok (.iconst 1, 1) := by decide +kernel
theorem d_La_law_415 : decode b_La_law 415 = .ok (.iadd, 1) := by decide +kernel
theorem d_La_law_416 : decode b_La_law 416 = .ok (.iaload, 1) := by decide +kernel
theorem d_La_law_417 : decode b_La_law 417 = .ok (.invokevirtual 69, 3) := by decide +kernel
theorem d_La_law_420 : decode b_La_law 420 = .ok (.aload_n 2, 1) := by decide +kernel
theorem d_La_law_421 : decode b_La_law 421 = .ok (.aload_n 0, 1) := by decide +kernel
theorem d_La_law_422 : decode b_La_law 422 = .ok (.iload_n 3, 1) := by decide +kernel
theorem d_La_law_423 : decode b_La_law 423 = .ok (.iconst 1, 1) := by decide +kernel
theorem d_La_law_424 : decode b_La_law 424 = .ok (.iadd, 1) := by decide +kernel
theorem d_La_law_425 : decode b_La_law 425 = .ok (.iaload, 1) := by decide +kernel
theorem d_La_law_426 : decode b_La_law 426 = .ok (.invokevirtual 72, 3) := by decide +kernel
theorem d_La_law_429 : decode b_La_law 429 = .ok (.lcmp, 1) := by decide +kernel
theorem d_La_law_430 : decode b_La_law 430 = .ok (.ifCond .eq 5, 3) := by decide +kernel
theorem d_La_law_433 : decode b_La_law 433 = .ok (.iconst 0, 1) := by decide +kernel
theorem d_La_law_434 : decode b_La_law 434 = .ok (.ireturn, 1) := by decide +kernel
theorem d_La_law_435 : decode b_La_law 435 = .ok (.iinc 3 5, 3) := by decide +kernel
theorem d_La_law_438 : decode b_La_law 438 = .ok (.goto (-410), 3) := by decide +kernel
theorem d_La_law_441 : decode b_La_law 441 = .ok (.iconst 1, 1) := by decide +kernel
theorem d_La_law_442 : decode b_La_law 442 = .ok (.ireturn, 1) := by decide +kernel
