theorem d_Lw_law_0 : decode code 0 = .ok (.new 8, 3) := by decide +kernel
theorem d_Lw_law_3 : decode code 3 = .ok (.dup, 1) := by decide +kernel
theorem d_Lw_law_4 : decode code 4 = .ok (.invokespecial 46, 3) := by decide +kernel
theorem d_Lw_law_7 : decode code 7 = .ok (.astore_n 1, 1) := by decide +kernel
theorem d_Lw_law_8 : decode code 8 = .ok (.new 47, 3) := by decide +kernel
theorem d_Lw_law_11 : decode code 11 = .ok (.dup, 1) := by decide +kernel
theorem d_Lw_law_12 : decode code 12 = .ok (.invokespecial 49, 3) := by decide +kernel
theorem d_Lw_law_15 : decode code 15 = .ok (.astore_n 2, 1) := by decide +kernel
theorem d_Lw_law_16 : decode code 16 = .ok (.iconst 1, 1) := by decide +kernel
theorem d_Lw_law_17 : decode code 17 = .ok (.newarray .long, 2) := by decide +kernel
theorem d_Lw_law_19 : decode code 19 = .ok (.astore_n 3, 1) := by decide +kernel
theorem d_Lw_law_20 : decode code 20 = .ok (.iconst 0, 1) := by decide +kernel
theorem d_Lw_law_21 : decode code 21 = .ok (.istore 4, 2) := by decide +kernel
theorem d_Lw_law_23 : decode code 23 = .ok (.iload 4, 2) := by decide +kernel
theorem d_Lw_law_25 : decode code 25 = .ok (.aload_n 0, 1) := by decide +kernel
theorem d_Lw_law_26 : decode code 26 = .ok (.arraylength, 1) := by decide +kernel
theorem d_Lw_law_27 : decode code 27 = .ok (.bipush 6, 2) := by decide +kernel
theorem d_Lw_law_29 : decode code 29 = .ok (.isub, 1) := by decide +kernel
theorem d_Lw_law_30 : decode code 30 = .ok (.if_icmp .gt 965, 3) := by decide +kernel
theorem d_Lw_law_33 : decode code 33 = .ok (.aload_n 0, 1) := by decide +kernel
theorem d_Lw_law_34 : decode code 34 = .ok (.iload 4, 2) := by decide +kernel
theorem d_Lw_law_36 : decode code 36 = .ok (.iaload, 1) := by decide +kernel
theorem d_Lw_law_37 : decode code 37 = .ok (.bipush 31, 2) := by decide +kernel
theorem d_Lw_law_39 : decode code 39 = .ok (.iand, 1) := by decide +kernel
theorem d_Lw_law_40 : decode code 40 = .ok (.tableswitch 949 0 18 #[92, 188, 263, 323, 347, 451, 495, 520, 600, 680, 724, 737, 750, 763, 788, 813, 850, 875, 912], 92) := by decide +kernel
theorem d_Lw_law_132 : decode code 132 = .ok (.aload_n 1, 1) := by decide +kernel
theorem d_Lw_law_133 : decode code 133 = .ok (.aload_n 0, 1) := by decide +kernel
theorem d_Lw_law_134 : decode code 134 = .ok (.iload 4, 2) := by decide +kernel
theorem d_Lw_law_136 : decode code 136 = .ok (.iconst 1, 1) := by decide +kernel
theorem d_Lw_law_137 : decode code 137 = .ok (.iadd, 1) := by decide +kernel
theorem d_Lw_law_138 : decode code 138 = .ok (.iaload, 1) := by decide +kernel
theorem d_Lw_law_139 : decode code 139 = .ok (.aload_n 0, 1) := by decide +kernel
theorem d_Lw_law_140 : decode code 140 = .ok (.iload 4, 2) := by decide +kernel
theorem d_Lw_law_142 : decode code 142 = .ok (.iconst 2, 1) := by decide +kernel
theorem d_Lw_law_143 : decode code 143 = .ok (.iadd, 1) := by decide +kernel
theorem d_Lw_law_144 : decode code 144 = .ok (.iaload, 1) := by decide +kernel
theorem d_Lw_law_145 : decode code 145 = .ok (.ifCond .eq 7, 3) := by decide +kernel
theorem d_Lw_law_148 : decode code 148 = .ok (.iconst 1, 1) := by decide +kernel
theorem d_Lw_law_149 : decode code 149 = .ok (.goto 4, 3) := by decide +kernel
theorem d_Lw_law_152 : decode code 152 = .ok (.iconst 0, 1) := by decide +kernel
theorem d_Lw_law_153 : decode code 153 = .ok (.aload_n 0, 1) := by decide +kernel
theorem d_Lw_law_154 : decode code 154 = .ok (.iload 4, 2) := by decide +kernel
theorem d_Lw_law_156 : decode code 156 = .ok (.iconst 3, 1) := by decide +kernel
theorem d_Lw_law_157 : decode code 157 = .ok (.iadd, 1) := by decide +kernel
theorem d_Lw_law_158 : decode code 158 = .ok (.iaload, 1) := by decide +kernel
theorem d_Lw_law_159 : decode code 159 = .ok (.aload_n 3, 1) := by decide +kernel
theorem d_Lw_law_160 : decode code 160 = .ok (.invokestatic 50, 3) := by decide +kernel
theorem d_Lw_law_163 : decode code 163 = .ok (.istore 5, 2) := by decide +kernel
theorem d_Lw_law_165 : decode code 165 = .ok (.aload_n 2, 1) := by decide +kernel
theorem d_Lw_law_166 : decode code 166 = .ok (.aload_n 0, 1) := by decide +kernel
theorem d_Lw_law_167 : decode code 167 = .ok (.iload 4, 2) := by decide +kernel
theorem d_Lw_law_169 : decode code 169 = .ok (.iconst 1, 1) := by decide +kernel
theorem d_Lw_law_170 : decode code 170 = .ok (.iadd, 1) := by decide +kernel
theorem d_Lw_law_171 : decode code 171 = .ok (.iaload, 1) := by decide +kernel
theorem d_Lw_law_172 : decode code 172 = .ok (.aload_n 0, 1) := by decide +kernel
theorem d_Lw_law_173 : decode code 173 = .ok (.iload 4, 2) := by decide +kernel
theorem d_Lw_law_175 : decode code 175 = .ok (.iconst 2, 1) := by decide +kernel
theorem d_Lw_law_176 : decode code 176 = .ok (.iadd, 1) := by decide +kernel
theorem d_Lw_law_177 : decode code 177 = .ok (.iaload, 1) := by decide +kernel
theorem d_Lw_law_178 : decode code 178 = .ok (.ifCond .eq 7, 3) := by decide +kernel
theorem d_Lw_law_181 : decode code 181 = .ok (.iconst 1, 1) := by decide +kernel
theorem d_Lw_law_182 : decode code 182 = .ok (.goto 4, 3) := by decide +kernel
theorem d_Lw_law_185 : decode code 185 = .ok (.iconst 0, 1) := by decide +kernel
theorem d_Lw_law_186 : decode code 186 = .ok (.aload_n 0, 1) := by decide +kernel
theorem d_Lw_law_187 : decode code 187 = .ok (.iload 4, 2) := by decide +kernel
theorem d_Lw_law_189 : decode code 189 = .ok (.iconst 3, 1) := by decide +kernel
theorem d_Lw_law_190 : decode code 190 = .ok (.iadd, 1) := by decide +kernel
theorem d_Lw_law_191 : decode code 191 = .ok (.iaload, 1) := by decide +kernel
theorem d_Lw_law_192 : decode code 192 = .ok (.invokevirtual 55, 3) := by decide +kernel
theorem d_Lw_law_195 : decode code 195 = .ok (.istore 6, 2) := by decide +kernel
theorem d_Lw_law_197 : decode code 197 = .ok (.aload_n 2, 1) := by decide +kernel
theorem d_Lw_law_198 : decode code 198 = .ok (.invokevirtual 56, 3) := by decide +kernel
theorem d_Lw_law_201 : decode code 201 = .ok (.iload 5, 2) := by decide +kernel
theorem d_Lw_law_203 : decode code 203 = .ok (.if_icmp .eq 5, 3) := by decide +kernel
theorem d_Lw_law_206 : decode code 206 = .ok (.iconst 0, 1) := by decide +kernel
theorem d_Lw_law_207 : decode code 207 = .ok (.ireturn, 1) := by decide +kernel
theorem d_Lw_law_208 : decode code 208 = .ok (.iload 5, 2) := by decide +kernel
theorem d_Lw_law_210 : decode code 210 = .ok (.ifCond .ne 15, 3) := by decide +kernel
theorem d_Lw_law_213 : decode code 213 = .ok (.aload_n 3, 1) := by decide +kernel
theorem d_Lw_law_214 : decode code 214 = .ok (.iconst 0, 1) := by decide +kernel
theorem d_Lw_law_215 : decode code 215 = .ok (.laload, 1) := by decide +kernel
theorem d_Lw_law_216 : decode code 216 = .ok (.iload 6, 2) := by decide +kernel
theorem d_Lw_law_218 : decode code 218 = .ok (.i2l, 1) := by decide +kernel
theorem d_Lw_law_219 : decode code 219 = .ok (.lcmp, 1) := by decide +kernel
theorem d_Lw_law_220 : decode code 220 = .ok (.ifCond .eq 5, 3) := by decide +kernel
theorem d_Lw_law_223 : decode code 223 = .ok (.iconst 0, 1) := by decide +kernel
theorem d_Lw_law_224 : decode code 224 = .ok (.ireturn, 1) := by decide +kernel
theorem d_Lw_law_225 : decode code 225 = .ok (.goto 764, 3) := by decide +kernel
theorem d_Lw_law_228 : decode code 228 = .ok (.aload_n 1, 1) := by decide +kernel
theorem d_Lw_law_229 : decode code 229 = .ok (.aload_n 0, 1) := by decide +kernel
theorem d_Lw_law_230 : decode code 230 = .ok (.iload 4, 2) := by decide +kernel
theorem d_Lw_law_232 : decode code 232 = .ok (.iconst 1, 1) := by decide +kernel
theorem d_Lw_law_233 : decode code 233 = .ok (.iadd, 1) := by decide +kernel
theorem d_Lw_law_234 : decode code 234 = .ok (.iaload, 1) := by decide +kernel
theorem d_Lw_law_235 : decode code 235 = .ok (.aload_n 0, 1) := by decide +kernel
theorem d_Lw_law_236 : decode code 236 = .ok (.iload 4, 2) := by decide +kernel
theorem d_Lw_law_238 : decode code 238 = .ok (.iconst 2, 1) := by decide +kernel
theorem d_Lw_law_239 : decode code 239 = .ok (.iadd, 1) := by decide +kernel
theorem d_Lw_law_240 : decode code 240 = .ok (.iaload, 1) := by decide +kernel
theorem d_Lw_law_241 : decode code 241 = .ok (.aload_n 3, 1) := by decide +kernel
theorem d_Lw_law_242 : decode code 242 = .ok (.invokestatic 59, 3) := by decide +kernel
theorem d_Lw_law_245 : decode code 245 = .ok (.istore 5, 2) := by decide +kernel
theorem d_Lw_law_247 : decode code 247 = .ok (.aload_n 2, 1) := by decide +kernel
theorem d_Lw_law_248 : decode code 248 = .ok (.aload_n 0, 1) := by decide +kernel
theorem d_Lw_law_249 : decode code 249 = .ok (.iload 4, 2) := by decide +kernel
theorem d_Lw_law_251 : decode code 251 = .ok (.iconst 1, 1) := by decide +kernel
theorem d_Lw_law_252 : decode code 252 = .ok (.iadd, 1) := by decide +kernel
theorem d_Lw_law_253 : decode code 253 = .ok (.iaload, 1) := by decide +kernel
theorem d_Lw_law_254 : decode code 254 = .ok (.aload_n 0, 1) := by decide +kernel
theorem d_Lw_law_255 : decode code 255 = .ok (.iload 4, 2) := by decide +kernel
theorem d_Lw_law_257 : decode code 257 = .ok (.iconst 2, 1) := by decide +kernel
theorem d_Lw_law_258 : decode code 258 = .ok (.iadd, 1) := by decide +kernel
theorem d_Lw_law_259 : decode code 259 = .ok (.iaload, 1) := by decide +kernel
theorem d_Lw_law_260 : decode code 260 = .ok (.invokevirtual 62, 3) := by decide +kernel
theorem d_Lw_law_263 : decode code 263 = .ok (.istore 6, 2) := by decide +kernel
theorem d_Lw_law_265 : decode code 265 = .ok (.aload_n 2, 1) := by decide +kernel
theorem d_Lw_law_266 : decode code 266 = .ok (.invokevirtual 56, 3) := by decide +kernel
theorem d_Lw_law_269 : decode code 269 = .ok (.iload 5, 2) := by decide +kernel
theorem d_Lw_law_271 : decode code 271 = .ok (.if_icmp .eq 5, 3) := by decide +kernel
theorem d_Lw_law_274 : decode code 274 = .ok (.iconst 0, 1) := by decide +kernel
theorem d_Lw_law_275 : decode code 275 = .ok (.ireturn, 1) := by decide +kernel
theorem d_Lw_law_276 : decode code 276 = .ok (.iload 5, 2) := by decide +kernel
theorem d_Lw_law_278 : decode code 278 = .ok (.ifCond .ne 22, 3) := by decide +kernel
theorem d_Lw_law_281 : decode code 281 = .ok (.aload_n 3, 1) := by decide +kernel
theorem d_Lw_law_282 : decode code 282 = .ok (.iconst 0, 1) := by decide +kernel
theorem d_Lw_law_283 : decode code 283 = .ok (.laload, 1) := by decide +kernel
theorem d_Lw_law_284 : decode code 284 = .ok (.iload 6, 2) := by decide +kernel
theorem d_Lw_law_286 : decode code 286 = .ok (.ifCond .eq 7, 3) := by decide +kernel
theorem d_Lw_law_289 : decode code 289 = .ok (.lconst 1, 1) := by decide +kernel
theorem d_Lw_law_290 : decode code 290 = .ok (.goto 4, 3) := by decide +kernel
theorem d_Lw_law_293 : decode code 293 = .ok (.lconst 0, 1) := by decide +kernel
theorem d_Lw_law_294 : decode code 294 = .ok (.lcmp, 1) := by decide +kernel
theorem d_Lw_law_295 : decode code 295 = .ok (.ifCond .eq 5, 3) := by decide +kernel
theorem d_Lw_law_298 : decode code 298 = .ok (.iconst 0, 1) := by decide +kernel
theorem d_Lw_law_299 : decode code 299 = .ok (.ireturn, 1) := by decide +kernel
theorem d_Lw_law_300 : decode code 300 = .ok (.goto 689, 3) := by decide +kernel
theorem d_Lw_law_303 : decode code 303 = .ok (.aload_n 1, 1) := by decide +kernel
theorem d_Lw_law_304 : decode code 304 = .ok (.aload_n 0, 1) := by decide +kernel
theorem d_Lw_law_305 : decode code 305 = .ok (.iload 4, 2) := by decide +kernel
theorem d_Lw_law_307 : decode code 307 = .ok (.iconst 1, 1) := by decide +kernel
theorem d_Lw_law_308 : decode code 308 = .ok (.iadd, 1) := by decide +kernel
theorem d_Lw_law_309 : decode code 309 = .ok (.iaload, 1) := by decide +kernel
theorem d_Lw_law_310 : decode code 310 = .ok (.aload_n 0, 1) := by decide +kernel
theorem d_Lw_law_311 : decode code 311 = .ok (.iload 4, 2) := by decide +kernel
theorem d_Lw_law_313 : decode code 313 = .ok (.iconst 2, 1) := by decide +kernel
theorem d_Lw_law_314 : decode code 314 = .ok (.iadd, 1) := by decide +kernel
theorem d_Lw_law_315 : decode code 315 = .ok (.iaload, 1) := by decide +kernel
theorem d_Lw_law_316 : decode code 316 = .ok (.aload_n 0, 1) := by decide +kernel
theorem d_Lw_law_317 : decode code 317 = .ok (.iload 4, 2) := by decide +kernel
theorem d_Lw_law_319 : decode code 319 = .ok (.iconst 3, 1) := by decide +kernel
