theorem d_LW_law_168 : decode code 168 = .ok (.iload 4, 2) := by decide +kernel
theorem d_LW_law_170 : decode code 170 = .ok (.iconst 2, 1) := by decide +kernel
theorem d_LW_law_171 : decode code 171 = .ok (.iadd, 1) := by decide +kernel
theorem d_LW_law_172 : decode code 172 = .ok (.iaload, 1) := by decide +kernel
theorem d_LW_law_173 : decode code 173 = .ok (.aload_n 0, 1) := by decide +kernel
theorem d_LW_law_174 : decode code 174 = .ok (.iload 4, 2) := by decide +kernel
theorem d_LW_law_176 : decode code 176 = .ok (.iconst 3, 1) := by decide +kernel
theorem d_LW_law_177 : decode code 177 = .ok (.iadd, 1) := by decide +kernel
theorem d_LW_law_178 : decode code 178 = .ok (.iaload, 1) := by decide +kernel
theorem d_LW_law_179 : decode code 179 = .ok (.aload_n 0, 1) := by decide +kernel
theorem d_LW_law_180 : decode code 180 = .ok (.iload 4, 2) := by decide +kernel
theorem d_LW_law_182 : decode code 182 = .ok (.iconst 4, 1) := by decide +kernel
theorem d_LW_law_183 : decode code 183 = .ok (.iadd, 1) := by decide +kernel
theorem d_LW_law_184 : decode code 184 = .ok (.iaload, 1) := by decide +kernel
theorem d_LW_law_185 : decode code 185 = .ok (.aload_n 0, 1) := by decide +kernel
theorem d_LW_law_186 : decode code 186 = .ok (.iload 4, 2) := by decide +kernel
theorem d_LW_law_188 : decode code 188 = .ok (.iconst 5, 1) := by decide +kernel
theorem d_LW_law_189 : decode code 189 = .ok (.iadd, 1) := by decide +kernel
theorem d_LW_law_190 : decode code 190 = .ok (.iaload, 1) := by decide +kernel
theorem d_LW_law_191 : decode code 191 = .ok (.invokevirtual 30, 3) := by decide +kernel
theorem d_LW_law_194 : decode code 194 = .ok (.aload_n 2, 1) := by decide +kernel
theorem d_LW_law_195 : decode code 195 = .ok (.invokevirtual 31, 3) := by decide +kernel
theorem d_LW_law_198 : decode code 198 = .ok (.iload 5, 2) := by decide +kernel
theorem d_LW_law_200 : decode code 200 = .ok (.if_icmp .eq 5, 3) := by decide +kernel
theorem d_LW_law_203 : decode code 203 = .ok (.iconst 0, 1) := by decide +kernel
theorem d_LW_law_204 : decode code 204 = .ok (.ireturn, 1) := by decide +kernel
theorem d_LW_law_205 : decode code 205 = .ok (.goto 458, 3) := by decide +kernel
theorem d_LW_law_208 : decode code 208 = .ok (.aload_n 1, 1) := by decide +kernel
theorem d_LW_law_209 : decode code 209 = .ok (.aload_n 0, 1) := by decide +kernel
theorem d_LW_law_210 : decode code 210 = .ok (.iload 4, 2) := by decide +kernel
theorem d_LW_law_212 : decode code 212 = .ok (.iconst 1, 1) := by decide +kernel
theorem d_LW_law_213 : decode code 213 = .ok (.iadd, 1) := by decide +kernel
theorem d_LW_law_214 : decode code 214 = .ok (.iaload, 1) := by decide +kernel
theorem d_LW_law_215 : decode code 215 = .ok (.aload_n 3, 1) := by decide +kernel
theorem d_LW_law_216 : decode code 216 = .ok (.invokestatic 35, 3) := by decide +kernel
theorem d_LW_law_219 : decode code 219 = .ok (.istore 5, 2) := by decide +kernel
theorem d_LW_law_221 : decode code 221 = .ok (.aload_n 2, 1) := by decide +kernel
theorem d_LW_law_222 : decode code 222 = .ok (.aload_n 0, 1) := by decide +kernel
theorem d_LW_law_223 : decode code 223 = .ok (.iload 4, 2) := by decide +kernel
theorem d_LW_law_225 : decode code 225 = .ok (.iconst 1, 1) := by decide +kernel
theorem d_LW_law_226 : decode code 226 = .ok (.iadd, 1) := by decide +kernel
theorem d_LW_law_227 : decode code 227 = .ok (.iaload, 1) := by decide +kernel
theorem d_LW_law_228 : decode code 228 = .ok (.invokevirtual 38, 3) := by decide +kernel
theorem d_LW_law_231 : decode code 231 = .ok (.istore 6, 2) := by decide +kernel
theorem d_LW_law_233 : decode code 233 = .ok (.aload_n 2, 1) := by decide +kernel
theorem d_LW_law_234 : decode code 234 = .ok (.invokevirtual 31, 3) := by decide +kernel
theorem d_LW_law_237 : decode code 237 = .ok (.iload 5, 2) := by decide +kernel
theorem d_LW_law_239 : decode code 239 = .ok (.if_icmp .eq 5, 3) := by decide +kernel
theorem d_LW_law_242 : decode code 242 = .ok (.iconst 0, 1) := by decide +kernel
theorem d_LW_law_243 : decode code 243 = .ok (.ireturn, 1) := by decide +kernel
theorem d_LW_law_244 : decode code 244 = .ok (.iload 5, 2) := by decide +kernel
theorem d_LW_law_246 : decode code 246 = .ok (.ifCond .ne 15, 3) := by decide +kernel
theorem d_LW_law_249 : decode code 249 = .ok (.aload_n 3, 1) := by decide +kernel
theorem d_LW_law_250 : decode code 250 = .ok (.iconst 0, 1) := by decide +kernel
theorem d_LW_law_251 : decode code 251 = .ok (.laload, 1) := by decide +kernel
theorem d_LW_law_252 : decode code 252 = .ok (.iload 6, 2) := by decide +kernel
theorem d_LW_law_254 : decode code 254 = .ok (.i2l, 1) := by decide +kernel
theorem d_LW_law_255 : decode code 255 = .ok (.lcmp, 1) := by decide +kernel
theorem d_LW_law_256 : decode code 256 = .ok (.ifCond .eq 5, 3) := by decide +kernel
theorem d_LW_law_259 : decode code 259 = .ok (.iconst 0, 1) := by decide +kernel
