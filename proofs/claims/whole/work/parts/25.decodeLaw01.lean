theorem dL_law_169 : decode code 169 = .ok (.ifCond .ne 15, 3) := by decide +kernel
theorem dL_law_172 : decode code 172 = .ok (.aload_n 3, 1) := by decide +kernel
theorem dL_law_173 : decode code 173 = .ok (.iconst 0, 1) := by decide +kernel
theorem dL_law_174 : decode code 174 = .ok (.laload, 1) := by decide +kernel
theorem dL_law_175 : decode code 175 = .ok (.iload 6, 2) := by decide +kernel
theorem dL_law_177 : decode code 177 = .ok (.i2l, 1) := by decide +kernel
theorem dL_law_178 : decode code 178 = .ok (.lcmp, 1) := by decide +kernel
theorem dL_law_179 : decode code 179 = .ok (.ifCond .eq 5, 3) := by decide +kernel
theorem dL_law_182 : decode code 182 = .ok (.iconst 0, 1) := by decide +kernel
theorem dL_law_183 : decode code 183 = .ok (.ireturn, 1) := by decide +kernel
theorem dL_law_184 : decode code 184 = .ok (.goto 651, 3) := by decide +kernel
theorem dL_law_187 : decode code 187 = .ok (.aload_n 1, 1) := by decide +kernel
theorem dL_law_188 : decode code 188 = .ok (.aload_n 0, 1) := by decide +kernel
theorem dL_law_189 : decode code 189 = .ok (.iload 4, 2) := by decide +kernel
theorem dL_law_191 : decode code 191 = .ok (.iconst 1, 1) := by decide +kernel
theorem dL_law_192 : decode code 192 = .ok (.iadd, 1) := by decide +kernel
theorem dL_law_193 : decode code 193 = .ok (.iaload, 1) := by decide +kernel
theorem dL_law_194 : decode code 194 = .ok (.aload_n 0, 1) := by decide +kernel
theorem dL_law_195 : decode code 195 = .ok (.iload 4, 2) := by decide +kernel
theorem dL_law_197 : decode code 197 = .ok (.iconst 2, 1) := by decide +kernel
theorem dL_law_198 : decode code 198 = .ok (.iadd, 1) := by decide +kernel
theorem dL_law_199 : decode code 199 = .ok (.iaload, 1) := by decide +kernel
theorem dL_law_200 : decode code 200 = .ok (.aload_n 0, 1) := by decide +kernel
theorem dL_law_201 : decode code 201 = .ok (.iload 4, 2) := by decide +kernel
theorem dL_law_203 : decode code 203 = .ok (.iconst 3, 1) := by decide +kernel
theorem dL_law_204 : decode code 204 = .ok (.iadd, 1) := by decide +kernel
theorem dL_law_205 : decode code 205 = .ok (.iaload, 1) := by decide +kernel
theorem dL_law_206 : decode code 206 = .ok (.aload_n 3, 1) := by decide +kernel
theorem dL_law_207 : decode code 207 = .ok (.invokestatic 64, 3) := by decide +kernel
theorem dL_law_210 : decode code 210 = .ok (.istore 5, 2) := by decide +kernel
theorem dL_law_212 : decode code 212 = .ok (.aload_n 2, 1) := by decide +kernel
theorem dL_law_213 : decode code 213 = .ok (.aload_n 0, 1) := by decide +kernel
theorem dL_law_214 : decode code 214 = .ok (.iload 4, 2) := by decide +kernel
theorem dL_law_216 : decode code 216 = .ok (.iconst 1, 1) := by decide +kernel
theorem dL_law_217 : decode code 217 = .ok (.iadd, 1) := by decide +kernel
theorem dL_law_218 : decode code 218 = .ok (.iaload, 1) := by decide +kernel
theorem dL_law_219 : decode code 219 = .ok (.aload_n 0, 1) := by decide +kernel
theorem dL_law_220 : decode code 220 = .ok (.iload 4, 2) := by decide +kernel
theorem dL_law_222 : decode code 222 = .ok (.iconst 2, 1) := by decide +kernel
theorem dL_law_223 : decode code 223 = .ok (.iadd, 1) := by decide +kernel
theorem dL_law_224 : decode code 224 = .ok (.iaload, 1) := by decide +kernel
theorem dL_law_225 : decode code 225 = .ok (.aload_n 0, 1) := by decide +kernel
theorem dL_law_226 : decode code 226 = .ok (.iload 4, 2) := by decide +kernel
theorem dL_law_228 : decode code 228 = .ok (.iconst 3, 1) := by decide +kernel
theorem dL_law_229 : decode code 229 = .ok (.iadd, 1) := by decide +kernel
theorem dL_law_230 : decode code 230 = .ok (.iaload, 1) := by decide +kernel
theorem dL_law_231 : decode code 231 = .ok (.invokevirtual 67, 3) := by decide +kernel
theorem dL_law_234 : decode code 234 = .ok (.istore 6, 2) := by decide +kernel
theorem dL_law_236 : decode code 236 = .ok (.aload_n 2, 1) := by decide +kernel
theorem dL_law_237 : decode code 237 = .ok (.invokevirtual 61, 3) := by decide +kernel
theorem dL_law_240 : decode code 240 = .ok (.iload 5, 2) := by decide +kernel
theorem dL_law_242 : decode code 242 = .ok (.if_icmp .eq 5, 3) := by decide +kernel
theorem dL_law_245 : decode code 245 = .ok (.iconst 0, 1) := by decide +kernel
theorem dL_law_246 : decode code 246 = .ok (.ireturn, 1) := by decide +kernel
theorem dL_law_247 : decode code 247 = .ok (.iload 5, 2) := by decide +kernel
theorem dL_law_249 : decode code 249 = .ok (.ifCond .ne 15, 3) := by decide +kernel
theorem dL_law_252 : decode code 252 = .ok (.aload_n 3, 1) := by decide +kernel
theorem dL_law_253 : decode code 253 = .ok (.iconst 0, 1) := by decide +kernel
theorem dL_law_254 : decode code 254 = .ok (.laload, 1) := by decide +kernel
theorem dL_law_255 : decode code 255 = .ok (.iload 6, 2) := by decide +kernel
theorem dL_law_257 : decode code 257 = .ok (.i2l, 1) := by decide +kernel
theorem dL_law_258 : decode code 258 = .ok (.lcmp, 1) := by decide +kernel
theorem dL_law_259 : decode code 259 = .ok (.ifCond .eq 5, 3) := by decide +kernel
theorem dL_law_262 : decode code 262 = .ok (.iconst 0, 1) := by decide +kernel
