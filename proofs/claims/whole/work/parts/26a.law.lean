/-! instructions of the law, by program -/
theorem d_La_law_0 : decode b_La_law 0 = .ok (.new 7, 3) := by decide +kernel
theorem d_La_law_3 : decode b_La_law 3 = .ok (.dup, 1) := by decide +kernel
theorem d_La_law_4 : decode b_La_law 4 = .ok (.invokespecial 9, 3) := by decide +kernel
theorem d_La_law_7 : decode b_La_law 7 = .ok (.astore_n 1, 1) := by decide +kernel
theorem d_La_law_8 : decode b_La_law 8 = .ok (.new 10, 3) := by decide +kernel
theorem d_La_law_11 : decode b_La_law 11 = .ok (.dup, 1) := by decide +kernel
theorem d_La_law_12 : decode b_La_law 12 = .ok (.invokespecial 12, 3) := by decide +kernel
theorem d_La_law_15 : decode b_La_law 15 = .ok (.astore_n 2, 1) := by decide +kernel
theorem d_La_law_16 : decode b_La_law 16 = .ok (.iconst 0, 1) := by decide +kernel
theorem d_La_law_17 : decode b_La_law 17 = .ok (.istore_n 3, 1) := by decide +kernel
theorem d_La_law_18 : decode b_La_law 18 = .ok (.iload_n 3, 1) := by decide +kernel
theorem d_La_law_19 : decode b_La_law 19 = .ok (.aload_n 0, 1) := by decide +kernel
theorem d_La_law_20 : decode b_La_law 20 = .ok (.arraylength, 1) := by decide +kernel
theorem d_La_law_21 : decode b_La_law 21 = .ok (.bipush 6, 2) := by decide +kernel
theorem d_La_law_23 : decode b_La_law 23 = .ok (.isub, 1) := by decide +kernel
theorem d_La_law_24 : decode b_La_law 24 = .ok (.if_icmp .gt 714, 3) := by decide +kernel
theorem d_La_law_27 : decode b_La_law 27 = .ok (.aload_n 0, 1) := by decide +kernel
theorem d_La_law_28 : decode b_La_law 28 = .ok (.iload_n 3, 1) := by decide +kernel
theorem d_La_law_29 : decode b_La_law 29 = .ok (.iaload, 1) := by decide +kernel
theorem d_La_law_30 : decode b_La_law 30 = .ok (.bipush 31, 2) := by decide +kernel
theorem d_La_law_32 : decode b_La_law 32 = .ok (.iand, 1) := by decide +kernel
theorem d_La_law_33 : decode b_La_law 33 = .ok (.tableswitch 699 0 17 #[87, 130, 173, 252, 295, 338, 371, 404, 477, 490, 513, 526, 549, 562, 595, 628, 651, 675], 87) := by decide +kernel
theorem d_La_law_120 : decode b_La_law 120 = .ok (.aload_n 1, 1) := by decide +kernel
theorem d_La_law_121 : decode b_La_law 121 = .ok (.aload_n 0, 1) := by decide +kernel
theorem d_La_law_122 : decode b_La_law 122 = .ok (.iload_n 3, 1) := by decide +kernel
theorem d_La_law_123 : decode b_La_law 123 = .ok (.iconst 1, 1) := by decide +kernel
theorem d_La_law_124 : decode b_La_law 124 = .ok (.iadd, 1) := by decide +kernel
theorem d_La_law_125 : decode b_La_law 125 = .ok (.iaload, 1) := by decide +kernel
theorem d_La_law_126 : decode b_La_law 126 = .ok (.aload_n 0, 1) := by decide +kernel
theorem d_La_law_127 : decode b_La_law 127 = .ok (.iload_n 3, 1) := by decide +kernel
theorem d_La_law_128 : decode b_La_law 128 = .ok (.iconst 2, 1) := by decide +kernel
theorem d_La_law_129 : decode b_La_law 129 = .ok (.iadd, 1) := by decide +kernel
theorem d_La_law_130 : decode b_La_law 130 = .ok (.iaload, 1) := by decide +kernel
theorem d_La_law_131 : decode b_La_law 131 = .ok (.aload_n 0, 1) := by decide +kernel
theorem d_La_law_132 : decode b_La_law 132 = .ok (.iload_n 3, 1) := by decide +kernel
theorem d_La_law_133 : decode b_La_law 133 = .ok (.iconst 3, 1) := by decide +kernel
theorem d_La_law_134 : decode b_La_law 134 = .ok (.iadd, 1) := by decide +kernel
theorem d_La_law_135 : decode b_La_law 135 = .ok (.iaload, 1) := by decide +kernel
theorem d_La_law_136 : decode b_La_law 136 = .ok (.invokevirtual 13, 3) := by decide +kernel
theorem d_La_law_139 : decode b_La_law 139 = .ok (.aload_n 2, 1) := by decide +kernel
theorem d_La_law_140 : decode b_La_law 140 = .ok (.aload_n 0, 1) := by decide +kernel
theorem d_La_law_141 : decode b_La_law 141 = .ok (.iload_n 3, 1) := by decide +kernel
theorem d_La_law_142 : decode b_La_law 142 = .ok (.iconst 1, 1) := by decide +kernel
theorem d_La_law_143 : decode b_La_law 143 = .ok (.iadd, 1) := by decide +kernel
theorem d_La_law_144 : decode b_La_law 144 = .ok (.iaload, 1) := by decide +kernel
theorem d_La_law_145 : decode b_La_law 145 = .ok (.aload_n 0, 1) := by decide +kernel
theorem d_La_law_146 : decode b_La_law 146 = .ok (.iload_n 3, 1) := by decide +kernel
theorem d_La_law_147 : decode b_La_law 147 = .ok (.iconst 2, 1) := by decide +kernel
theorem d_La_law_148 : decode b_La_law 148 = .ok (.iadd, 1) := by decide +kernel
theorem d_La_law_149 : decode b_La_law 149 = .ok (.iaload, 1) := by decide +kernel
theorem d_La_law_150 : decode b_La_law 150 = .ok (.aload_n 0, 1) := by decide +kernel
theorem d_La_law_151 : decode b_La_law 151 = .ok (.iload_n 3, 1) := by decide +kernel
theorem d_La_law_152 : decode b_La_law 152 = .ok (.iconst 3, 1) := by decide +kernel
theorem d_La_law_153 : decode b_La_law 153 = .ok (.iadd, 1) := by decide +kernel
theorem d_La_law_154 : decode b_La_law 154 = .ok (.iaload, 1) := by decide +kernel
theorem d_La_law_155 : decode b_La_law 155 = .ok (.invokevirtual 17, 3) := by decide +kernel
theorem d_La_law_158 : decode b_La_law 158 = .ok (.if_icmp .eq 574, 3) := by decide +kernel
theorem d_La_law_161 : decode b_La_law 161 = .ok (.iconst 0, 1) := by decide +kernel
theorem d_La_law_162 : decode b_La_law 162 = .ok (.ireturn, 1) := by decide +kernel
theorem d_La_law_163 : decode b_La_law 163 = .ok (.aload_n 1, 1) := by decide +kernel
theorem d_La_law_164 : decode b_La_law 164 = .ok (.aload_n 0, 1) := by decide +kernel
theorem d_La_law_165 : decode b_La_law 165 = .ok (.iload_n 3, 1) := by decide +kernel
theorem d_La_law_166 : decode b_La_law 166 = .ok (.iconst 1, 1) := by decide +kernel
theorem d_La_law_167 : decode b_La_law 167 = .ok (.iadd, 1) := by decide +kernel
theorem d_La_law_168 : decode b_La_law 168 = .ok (.iaload, 1) := by decide +kernel
theorem d_La_law_169 : decode b_La_law 169 = .ok (.aload_n 0, 1) := by decide +kernel
theorem d_La_law_170 : decode b_La_law 170 = .ok (.iload_n 3, 1) := by decide +kernel
theorem d_La_law_171 : decode b_La_law 171 = .ok (.iconst 2, 1) := by decide +kernel
theorem d_La_law_172 : decode b_La_law 172 = .ok (.iadd, 1) := by decide +kernel
theorem d_La_law_173 : decode b_La_law 173 = .ok (.iaload, 1) := by decide +kernel
theorem d_La_law_174 : decode b_La_law 174 = .ok (.aload_n 0, 1) := by decide +kernel
theorem d_La_law_175 : decode b_La_law 175 = .ok (.iload_n 3, 1) := by decide +kernel
theorem d_La_law_176 : decode b_La_law 176 = .ok (.iconst 3, 1) := by decide +kernel
theorem d_La_law_177 : decode b_La_law 177 = .ok (.iadd, 1) := by decide +kernel
theorem d_La_law_178 : decode b_La_law 178 = .ok (.iaload, 1) := by decide +kernel
theorem d_La_law_179 : decode b_La_law 179 = .ok (.invokevirtual 18, 3) := by decide +kernel
theorem d_La_law_182 : decode b_La_law 182 = .ok (.aload_n 2, 1) := by decide +kernel
theorem d_La_law_183 : decode b_La_law 183 = .ok (.aload_n 0, 1) := by decide +kernel
theorem d_La_law_184 : decode b_La_law 184 = .ok (.iload_n 3, 1) := by decide +kernel
theorem d_La_law_185 : decode b_La_law 185 = .ok (.iconst 1, 1) := by decide +kernel
theorem d_La_law_186 : decode b_La_law 186 = .ok (.iadd, 1) := by decide +kernel
theorem d_La_law_187 : decode b_La_law 187 = .ok (.iaload, 1) := by decide +kernel
theorem d_La_law_188 : decode b_La_law 188 = .ok (.aload_n 0, 1) := by decide +kernel
theorem d_La_law_189 : decode b_La_law 189 = .ok (.iload_n 3, 1) := by decide +kernel
theorem d_La_law_190 : decode b_La_law 190 = .ok (.iconst 2, 1) := by decide +kernel
theorem d_La_law_191 : decode b_La_law 191 = .ok (.iadd, 1) := by decide +kernel
theorem d_La_law_192 : decode b_La_law 192 = .ok (.iaload, 1) := by decide +kernel
theorem d_La_law_193 : decode b_La_law 193 = .ok (.aload_n 0, 1) := by decide +kernel
theorem d_La_law_194 : decode b_La_law 194 = .ok (.iload_n 3, 1) := by decide +kernel
theorem d_La_law_195 : decode b_La_law 195 = .ok (.iconst 3, 1) := by decide +kernel
theorem d_La_law_196 : decode b_La_law 196 = .ok (.iadd, 1) := by decide +kernel
theorem d_La_law_197 : decode b_La_law 197 = .ok (.iaload, 1) := by decide +kernel
theorem d_La_law_198 : decode b_La_law 198 = .ok (.invokevirtual 22, 3) := by decide +kernel
theorem d_La_law_201 : decode b_La_law 201 = .ok (.if_icmp .eq 531, 3) := by decide +kernel
theorem d_La_law_204 : decode b_La_law 204 = .ok (.iconst 0, 1) := by decide +kernel
theorem d_La_law_205 : decode b_La_law 205 = .ok (.ireturn, 1) := by decide +kernel
theorem d_La_law_206 : decode b_La_law 206 = .ok (.aload_n 1, 1) := by decide +kernel
theorem d_La_law_207 : decode b_La_law 207 = .ok (.aload_n 0, 1) := by decide +kernel
theorem d_La_law_208 : decode b_La_law 208 = .ok (.iload_n 3, 1) := by decide +kernel
theorem d_La_law_209 : decode b_La_law 209 = .ok (.iconst 1, 1) := by decide +kernel
theorem d_La_law_210 : decode b_La_law 210 = .ok (.iadd, 1) := by decide +kernel
theorem d_La_law_211 : decode b_La_law 211 = .ok (.iaload, 1) := by decide +kernel
theorem d_La_law_212 : decode b_La_law 212 = .ok (.aload_n 0, 1) := by decide +kernel
theorem d_La_law_213 : decode b_La_law 213 = .ok (.iload_n 3, 1) := by decide +kernel
theorem d_La_law_214 : decode b_La_law 214 = .ok (.iconst 2, 1) := by decide +kernel
theorem d_La_law_215 : decode b_La_law 215 = .ok (.iadd, 1) := by decide +kernel
theorem d_La_law_216 : decode b_La_law 216 = .ok (.iaload, 1) := by decide +kernel
theorem d_La_law_217 : decode b_La_law 217 = .ok (.aload_n 0, 1) := by decide +kernel
theorem d_La_law_218 : decode b_La_law 218 = .ok (.iload_n 3, 1) := by decide +kernel
theorem d_La_law_219 : decode b_La_law 219 = .ok (.iconst 3, 1) := by decide +kernel
theorem d_La_law_220 : decode b_La_law 220 = .ok (.iadd, 1) := by decide +kernel
theorem d_La_law_221 : decode b_La_law 221 = .ok (.iaload, 1) := by decide +kernel
theorem d_La_law_222 : decode b_La_law 222 = .ok (.aload_n 0, 1) := by decide +kernel
theorem d_La_law_223 : decode b_La_law 223 = .ok (.iload_n 3, 1) := by decide +kernel
theorem d_La_law_224 : decode b_La_law 224 = .ok (.iconst 4, 1) := by decide +kernel
theorem d_La_law_225 : decode b_La_law 225 = .ok (.iadd, 1) := by decide +kernel
theorem d_La_law_226 : decode b_La_law 226 = .ok (.iaload, 1) := by decide +kernel
theorem d_La_law_227 : decode b_La_law 227 = .ok (.aload_n 0, 1) := by decide +kernel
theorem d_La_law_228 : decode b_La_law 228 = .ok (.iload_n 3, 1) := by decide +kernel
theorem d_La_law_229 : decode b_La_law 229 = .ok (.iconst 5, 1) := by decide +kernel
theorem d_La_law_230 : decode b_La_law 230 = .ok (.iadd, 1) := by decide +kernel
theorem d_La_law_231 : decode b_La_law 231 = .ok (.iaload, 1) := by decide +kernel
theorem d_La_law_232 : decode b_La_law 232 = .ok (.ifCond .eq 7, 3) := by decide +kernel
theorem d_La_law_235 : decode b_La_law 235 = .ok (.iconst 1, 1) := by decide +kernel
theorem d_La_law_236 : decode b_La_law 236 = .ok (.goto 4, 3) := by decide +kernel
theorem d_La_law_239 : decode b_La_law 239 = .ok (.iconst 0, 1) := by decide +kernel
theorem d_La_law_240 : decode b_La_law 240 = .ok (.invokevirtual 23, 3) := by decide +kernel
theorem d_La_law_243 : decode b_La_law 243 = .ok (.aload_n 2, 1) := by decide +kernel
theorem d_La_law_244 : decode b_La_law 244 = .ok (.aload_n 0, 1) := by decide +kernel
theorem d_La_law_245 : decode b_La_law 245 = .ok (.iload_n 3, 1) := by decide +kernel
theorem d_La_law_246 : decode b_La_law 246 = .ok (.iconst 1, 1) := by decide +kernel
theorem d_La_law_247 : decode b_La_law 247 = .ok (.iadd, 1) := by decide +kernel
theorem d_La_law_248 : decode b_La_law 248 = .ok (.iaload, 1) := by decide +kernel
theorem d_La_law_249 : decode b_La_law 249 = .ok (.aload_n 0, 1) := by decide +kernel
theorem d_La_law_250 : decode b_La_law 250 = .ok (.iload_n 3, 1) := by decide +kernel
theorem d_La_law_251 : decode b_La_law 251 = .ok (.iconst 2, 1) := by decide +kernel
theorem d_La_law_252 : decode b_La_law 252 = .ok (.iadd, 1) := by decide +kernel
theorem d_La_law_253 : decode b_La_law 253 = .ok (.iaload, 1) := by decide +kernel
theorem d_La_law_254 : decode b_La_law 254 = .ok (.aload_n 0, 1) := by decide +kernel
theorem d_La_law_255 : decode b_La_law 255 = .ok (.iload_n 3, 1) := by decide +kernel
theorem d_La_law_256 : decode b_La_law 256 = .ok (.iconst 3, 1) := by decide +kernel
theorem d_La_law_257 : decode b_La_law 257 = .ok (.iadd, 1) := by decide +kernel
theorem d_La_law_258 : decode b_La_law 258 = .ok (.iaload, 1) := by decide +kernel
theorem d_La_law_259 : decode b_La_law 259 = .ok (.aload_n 0, 1) := by decide +kernel
theorem d_La_law_260 : decode b_La_law 260 = .ok (.iload_n 3, 1) := by decide +kernel
theorem d_La_law_261 : decode b_La_law 261 = .ok (.iconst 4, 1) := by decide +kernel
theorem d_La_law_262 : decode b_La_law 262 = .ok (.iadd, 1) := by decide +kernel
theorem d_La_law_263 : decode b_La_law 263 = .ok (.iaload, 1) := by decide +kernel
theorem d_La_law_264 : decode b_La_law 264 = .ok (.aload_n 0, 1) := by decide +kernel
theorem d_La_law_265 : decode b_La_law 265 = .ok (.iload_n 3, 1) := by decide +kernel
theorem d_La_law_266 : decode b_La_law 266 = .ok (.iconst 5, 1) := by decide +kernel
theorem d_La_law_267 : decode b_La_law 267 = .ok (.iadd, 1) := by decide +kernel
theorem d_La_law_268 : decode b_La_law 268 = .ok (.iaload, 1) := by decide +kernel
theorem d_La_law_269 : decode b_La_law 269 = .ok (.ifCond .eq 7, 3) := by decide +kernel
theorem d_La_law_272 : decode b_La_law 272 = .ok (.iconst 1, 1) := by decide +kernel
theorem d_La_law_273 : decode b_La_law 273 = .ok (.goto 4, 3) := by decide +kernel
theorem d_La_law_276 : decode b_La_law 276 = .ok (.iconst 0, 1) := by decide +kernel
theorem d_La_law_277 : decode b_La_law 277 = .ok (.invokevirtual 27, 3) := by decide +kernel
theorem d_La_law_280 : decode b_La_law 280 = .ok (.if_icmp .eq 452, 3) := by decide +kernel
theorem d_La_law_283 : decode b_La_law 283 = .ok (.iconst 0, 1) := by decide +kernel
theorem d_La_law_284 : decode b_La_law 284 = .ok (.ireturn, 1) := by decide +kernel
theorem d_La_law_285 : decode b_La_law 285 = .ok (.aload_n 1, 1) := by decide +kernel
theorem d_La_law_286 : decode b_La_law 286 = .ok (.aload_n 0, 1) := by decide +kernel
theorem d_La_law_287 : decode b_La_law 287 = .ok (.iload_n 3, 1) := by decide +kernel
theorem d_La_law_288 : decode b_La_law 288 = .ok (.iconst 1, 1) := by decide +kernel
theorem d_La_law_289 : decode b_La_law 289 = .ok (.iadd, 1) := by decide +kernel
theorem d_La_law_290 : decode b_La_law 290 = .ok (.iaload, 1) := by decide +kernel
theorem d_La_law_291 : decode b_La_law 291 = .ok (.aload_n 0, 1) := by decide +kernel
theorem d_La_law_292 : decode b_La_law 292 = .ok (.iload_n 3, 1) := by decide +kernel
theorem d_La_law_293 : decode b_La_law 293 = .ok (.iconst 2, 1) := by decide +kernel
theorem d_La_law_294 : decode b_La_law 294 = .ok (.iadd, 1) := by decide +kernel
theorem d_La_law_295 : decode b_La_law 295 = .ok (.iaload, 1) := by decide +kernel
