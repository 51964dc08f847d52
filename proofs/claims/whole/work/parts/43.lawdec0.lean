theorem dL_law_0 : decode code 0 = .ok (.new 7, 3) := by decide +kernel
theorem dL_law_3 : decode code 3 = .ok (.dup, 1) := by decide +kernel
theorem dL_law_4 : decode code 4 = .ok (.invokespecial 9, 3) := by decide +kernel
theorem dL_law_7 : decode code 7 = .ok (.astore_n 1, 1) := by decide +kernel
theorem dL_law_8 : decode code 8 = .ok (.new 10, 3) := by decide +kernel
theorem dL_law_11 : decode code 11 = .ok (.dup, 1) := by decide +kernel
theorem dL_law_12 : decode code 12 = .ok (.invokespecial 12, 3) := by decide +kernel
theorem dL_law_15 : decode code 15 = .ok (.astore_n 2, 1) := by decide +kernel
theorem dL_law_16 : decode code 16 = .ok (.iconst 0, 1) := by decide +kernel
theorem dL_law_17 : decode code 17 = .ok (.istore_n 3, 1) := by decide +kernel
theorem dL_law_18 : decode code 18 = .ok (.iload_n 3, 1) := by decide +kernel
theorem dL_law_19 : decode code 19 = .ok (.aload_n 0, 1) := by decide +kernel
theorem dL_law_20 : decode code 20 = .ok (.arraylength, 1) := by decide +kernel
theorem dL_law_21 : decode code 21 = .ok (.bipush 6, 2) := by decide +kernel
theorem dL_law_23 : decode code 23 = .ok (.isub, 1) := by decide +kernel
theorem dL_law_24 : decode code 24 = .ok (.if_icmp .gt 945, 3) := by decide +kernel
theorem dL_law_27 : decode code 27 = .ok (.aload_n 0, 1) := by decide +kernel
theorem dL_law_28 : decode code 28 = .ok (.iload_n 3, 1) := by decide +kernel
theorem dL_law_29 : decode code 29 = .ok (.iaload, 1) := by decide +kernel
theorem dL_law_30 : decode code 30 = .ok (.bipush 31, 2) := by decide +kernel
theorem dL_law_32 : decode code 32 = .ok (.iand, 1) := by decide +kernel
theorem dL_law_33 : decode code 33 = .ok (.tableswitch 930 0 26 #[123, 146, 159, 192, 225, 274, 307, 350, 383, 406, 439, 482, 515, 538, 551, 574, 607, 660, 673, 696, 759, 812, 835, 848, 881, 894, 907], 123) := by decide +kernel
theorem dL_law_156 : decode code 156 = .ok (.aload_n 1, 1) := by decide +kernel
theorem dL_law_157 : decode code 157 = .ok (.aload_n 0, 1) := by decide +kernel
theorem dL_law_158 : decode code 158 = .ok (.iload_n 3, 1) := by decide +kernel
theorem dL_law_159 : decode code 159 = .ok (.iconst 1, 1) := by decide +kernel
theorem dL_law_160 : decode code 160 = .ok (.iadd, 1) := by decide +kernel
theorem dL_law_161 : decode code 161 = .ok (.iaload, 1) := by decide +kernel
theorem dL_law_162 : decode code 162 = .ok (.invokevirtual 13, 3) := by decide +kernel
theorem dL_law_165 : decode code 165 = .ok (.aload_n 2, 1) := by decide +kernel
theorem dL_law_166 : decode code 166 = .ok (.aload_n 0, 1) := by decide +kernel
theorem dL_law_167 : decode code 167 = .ok (.iload_n 3, 1) := by decide +kernel
theorem dL_law_168 : decode code 168 = .ok (.iconst 1, 1) := by decide +kernel
theorem dL_law_169 : decode code 169 = .ok (.iadd, 1) := by decide +kernel
theorem dL_law_170 : decode code 170 = .ok (.iaload, 1) := by decide +kernel
theorem dL_law_171 : decode code 171 = .ok (.invokevirtual 17, 3) := by decide +kernel
theorem dL_law_174 : decode code 174 = .ok (.if_icmp .eq 789, 3) := by decide +kernel
theorem dL_law_177 : decode code 177 = .ok (.iconst 0, 1) := by decide +kernel
theorem dL_law_178 : decode code 178 = .ok (.ireturn, 1) := by decide +kernel
theorem dL_law_179 : decode code 179 = .ok (.aload_n 1, 1) := by decide +kernel
theorem dL_law_180 : decode code 180 = .ok (.invokevirtual 18, 3) := by decide +kernel
theorem dL_law_183 : decode code 183 = .ok (.aload_n 2, 1) := by decide +kernel
theorem dL_law_184 : decode code 184 = .ok (.invokevirtual 22, 3) := by decide +kernel
theorem dL_law_187 : decode code 187 = .ok (.if_icmp .eq 776, 3) := by decide +kernel
theorem dL_law_190 : decode code 190 = .ok (.iconst 0, 1) := by decide +kernel
theorem dL_law_191 : decode code 191 = .ok (.ireturn, 1) := by decide +kernel
theorem dL_law_192 : decode code 192 = .ok (.aload_n 1, 1) := by decide +kernel
theorem dL_law_193 : decode code 193 = .ok (.aload_n 0, 1) := by decide +kernel
theorem dL_law_194 : decode code 194 = .ok (.iload_n 3, 1) := by decide +kernel
theorem dL_law_195 : decode code 195 = .ok (.iconst 1, 1) := by decide +kernel
theorem dL_law_196 : decode code 196 = .ok (.iadd, 1) := by decide +kernel
theorem dL_law_197 : decode code 197 = .ok (.iaload, 1) := by decide +kernel
theorem dL_law_198 : decode code 198 = .ok (.aload_n 0, 1) := by decide +kernel
theorem dL_law_199 : decode code 199 = .ok (.iload_n 3, 1) := by decide +kernel
theorem dL_law_200 : decode code 200 = .ok (.iconst 2, 1) := by decide +kernel
theorem dL_law_201 : decode code 201 = .ok (.iadd, 1) := by decide +kernel
theorem dL_law_202 : decode code 202 = .ok (.iaload, 1) := by decide +kernel
theorem dL_law_203 : decode code 203 = .ok (.invokevirtual 23, 3) := by decide +kernel
theorem dL_law_206 : decode code 206 = .ok (.aload_n 2, 1) := by decide +kernel
theorem dL_law_207 : decode code 207 = .ok (.aload_n 0, 1) := by decide +kernel
theorem dL_law_208 : decode code 208 = .ok (.iload_n 3, 1) := by decide +kernel
theorem dL_law_209 : decode code 209 = .ok (.iconst 1, 1) := by decide +kernel
theorem dL_law_210 : decode code 210 = .ok (.iadd, 1) := by decide +kernel
theorem dL_law_211 : decode code 211 = .ok (.iaload, 1) := by decide +kernel
theorem dL_law_212 : decode code 212 = .ok (.aload_n 0, 1) := by decide +kernel
theorem dL_law_213 : decode code 213 = .ok (.iload_n 3, 1) := by decide +kernel
theorem dL_law_214 : decode code 214 = .ok (.iconst 2, 1) := by decide +kernel
theorem dL_law_215 : decode code 215 = .ok (.iadd, 1) := by decide +kernel
theorem dL_law_216 : decode code 216 = .ok (.iaload, 1) := by decide +kernel
theorem dL_law_217 : decode code 217 = .ok (.invokevirtual 27, 3) := by decide +kernel
theorem dL_law_220 : decode code 220 = .ok (.if_icmp .eq 743, 3) := by decide +kernel
theorem dL_law_223 : decode code 223 = .ok (.iconst 0, 1) := by decide +kernel
theorem dL_law_224 : decode code 224 = .ok (.ireturn, 1) := by decide +kernel
theorem dL_law_225 : decode code 225 = .ok (.aload_n 1, 1) := by decide +kernel
theorem dL_law_226 : decode code 226 = .ok (.aload_n 0, 1) := by decide +kernel
theorem dL_law_227 : decode code 227 = .ok (.iload_n 3, 1) := by decide +kernel
theorem dL_law_228 : decode code 228 = .ok (.iconst 1, 1) := by decide +kernel
theorem dL_law_229 : decode code 229 = .ok (.iadd, 1) := by decide +kernel
theorem dL_law_230 : decode code 230 = .ok (.iaload, 1) := by decide +kernel
theorem dL_law_231 : decode code 231 = .ok (.aload_n 0, 1) := by decide +kernel
theorem dL_law_232 : decode code 232 = .ok (.iload_n 3, 1) := by decide +kernel
theorem dL_law_233 : decode code 233 = .ok (.iconst 2, 1) := by decide +kernel
theorem dL_law_234 : decode code 234 = .ok (.iadd, 1) := by decide +kernel
theorem dL_law_235 : decode code 235 = .ok (.iaload, 1) := by decide +kernel
theorem dL_law_236 : decode code 236 = .ok (.invokevirtual 28, 3) := by decide +kernel
theorem dL_law_239 : decode code 239 = .ok (.aload_n 2, 1) := by decide +kernel
theorem dL_law_240 : decode code 240 = .ok (.aload_n 0, 1) := by decide +kernel
theorem dL_law_241 : decode code 241 = .ok (.iload_n 3, 1) := by decide +kernel
theorem dL_law_242 : decode code 242 = .ok (.iconst 1, 1) := by decide +kernel
theorem dL_law_243 : decode code 243 = .ok (.iadd, 1) := by decide +kernel
theorem dL_law_244 : decode code 244 = .ok (.iaload, 1) := by decide +kernel
theorem dL_law_245 : decode code 245 = .ok (.aload_n 0, 1) := by decide +kernel
theorem dL_law_246 : decode code 246 = .ok (.iload_n 3, 1) := by decide +kernel
theorem dL_law_247 : decode code 247 = .ok (.iconst 2, 1) := by decide +kernel
theorem dL_law_248 : decode code 248 = .ok (.iadd, 1) := by decide +kernel
theorem dL_law_249 : decode code 249 = .ok (.iaload, 1) := by decide +kernel
theorem dL_law_250 : decode code 250 = .ok (.invokevirtual 31, 3) := by decide +kernel
theorem dL_law_253 : decode code 253 = .ok (.if_icmp .eq 710, 3) := by decide +kernel
theorem dL_law_256 : decode code 256 = .ok (.iconst 0, 1) := by decide +kernel
theorem dL_law_257 : decode code 257 = .ok (.ireturn, 1) := by decide +kernel
theorem dL_law_258 : decode code 258 = .ok (.aload_n 1, 1) := by decide +kernel
theorem dL_law_259 : decode code 259 = .ok (.aload_n 0, 1) := by decide +kernel
theorem dL_law_260 : decode code 260 = .ok (.iload_n 3, 1) := by decide +kernel
theorem dL_law_261 : decode code 261 = .ok (.iconst 1, 1) := by decide +kernel
theorem dL_law_262 : decode code 262 = .ok (.iadd, 1) := by decide +kernel
theorem dL_law_263 : decode code 263 = .ok (.iaload, 1) := by decide +kernel
theorem dL_law_264 : decode code 264 = .ok (.aload_n 0, 1) := by decide +kernel
theorem dL_law_265 : decode code 265 = .ok (.iload_n 3, 1) := by decide +kernel
theorem dL_law_266 : decode code 266 = .ok (.iconst 2, 1) := by decide +kernel
theorem dL_law_267 : decode code 267 = .ok (.iadd, 1) := by decide +kernel
theorem dL_law_268 : decode code 268 = .ok (.iaload, 1) := by decide +kernel
theorem dL_law_269 : decode code 269 = .ok (.ifCond .eq 7, 3) := by decide +kernel
theorem dL_law_272 : decode code 272 = .ok (.iconst 1, 1) := by decide +kernel
theorem dL_law_273 : decode code 273 = .ok (.goto 4, 3) := by decide +kernel
theorem dL_law_276 : decode code 276 = .ok (.iconst 0, 1) := by decide +kernel
theorem dL_law_277 : decode code 277 = .ok (.invokevirtual 32, 3) := by decide +kernel
theorem dL_law_280 : decode code 280 = .ok (.aload_n 2, 1) := by decide +kernel
theorem dL_law_281 : decode code 281 = .ok (.aload_n 0, 1) := by decide +kernel
theorem dL_law_282 : decode code 282 = .ok (.iload_n 3, 1) := by decide +kernel
theorem dL_law_283 : decode code 283 = .ok (.iconst 1, 1) := by decide +kernel
