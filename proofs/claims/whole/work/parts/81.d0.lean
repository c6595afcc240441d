theorem dL_0 : decode code 0 = .ok (.new 7, 3) := by decide +kernel
theorem dL_3 : decode code 3 = .ok (.dup, 1) := by decide +kernel
theorem dL_4 : decode code 4 = .ok (.aload_n 0, 1) := by decide +kernel
theorem dL_5 : decode code 5 = .ok (.iconst 0, 1) := by decide +kernel
theorem dL_6 : decode code 6 = .ok (.invokestatic 9, 3) := by decide +kernel
theorem dL_9 : decode code 9 = .ok (.aload_n 0, 1) := by decide +kernel
theorem dL_10 : decode code 10 = .ok (.iconst 1, 1) := by decide +kernel
theorem dL_11 : decode code 11 = .ok (.invokestatic 9, 3) := by decide +kernel
theorem dL_14 : decode code 14 = .ok (.invokespecial 15, 3) := by decide +kernel
theorem dL_17 : decode code 17 = .ok (.astore_n 1, 1) := by decide +kernel
theorem dL_18 : decode code 18 = .ok (.new 18, 3) := by decide +kernel
theorem dL_21 : decode code 21 = .ok (.dup, 1) := by decide +kernel
theorem dL_22 : decode code 22 = .ok (.aload_n 0, 1) := by decide +kernel
theorem dL_23 : decode code 23 = .ok (.iconst 0, 1) := by decide +kernel
theorem dL_24 : decode code 24 = .ok (.invokestatic 9, 3) := by decide +kernel
theorem dL_27 : decode code 27 = .ok (.aload_n 0, 1) := by decide +kernel
theorem dL_28 : decode code 28 = .ok (.iconst 1, 1) := by decide +kernel
theorem dL_29 : decode code 29 = .ok (.invokestatic 9, 3) := by decide +kernel
theorem dL_32 : decode code 32 = .ok (.invokespecial 20, 3) := by decide +kernel
theorem dL_35 : decode code 35 = .ok (.astore_n 2, 1) := by decide +kernel
theorem dL_36 : decode code 36 = .ok (.iconst 2, 1) := by decide +kernel
theorem dL_37 : decode code 37 = .ok (.istore_n 3, 1) := by decide +kernel
theorem dL_38 : decode code 38 = .ok (.iload_n 3, 1) := by decide +kernel
theorem dL_39 : decode code 39 = .ok (.aload_n 0, 1) := by decide +kernel
theorem dL_40 : decode code 40 = .ok (.arraylength, 1) := by decide +kernel
theorem dL_41 : decode code 41 = .ok (.iconst 5, 1) := by decide +kernel
theorem dL_42 : decode code 42 = .ok (.isub, 1) := by decide +kernel
theorem dL_43 : decode code 43 = .ok (.if_icmp .gt (858), 3) := by decide +kernel
theorem dL_46 : decode code 46 = .ok (.aload_n 0, 1) := by decide +kernel
theorem dL_47 : decode code 47 = .ok (.iload_n 3, 1) := by decide +kernel
theorem dL_48 : decode code 48 = .ok (.iaload, 1) := by decide +kernel
theorem dL_49 : decode code 49 = .ok (.bipush (31), 2) := by decide +kernel
theorem dL_51 : decode code 51 = .ok (.iand, 1) := by decide +kernel
theorem dL_52 : decode code 52 = .ok (.tableswitch 843 0 19 #[96, 139, 162, 206, 229, 252, 275, 308, 371, 445, 498, 552, 595, 608, 652, 696, 730, 753, 796, 830], 96) := by decide +kernel
theorem dL_148 : decode code 148 = .ok (.aload_n 1, 1) := by decide +kernel
theorem dL_149 : decode code 149 = .ok (.aload_n 0, 1) := by decide +kernel
theorem dL_150 : decode code 150 = .ok (.iload_n 3, 1) := by decide +kernel
theorem dL_151 : decode code 151 = .ok (.iconst 1, 1) := by decide +kernel
theorem dL_152 : decode code 152 = .ok (.iadd, 1) := by decide +kernel
theorem dL_153 : decode code 153 = .ok (.iaload, 1) := by decide +kernel
theorem dL_154 : decode code 154 = .ok (.aload_n 0, 1) := by decide +kernel
theorem dL_155 : decode code 155 = .ok (.iload_n 3, 1) := by decide +kernel
theorem dL_156 : decode code 156 = .ok (.iconst 2, 1) := by decide +kernel
theorem dL_157 : decode code 157 = .ok (.iadd, 1) := by decide +kernel
theorem dL_158 : decode code 158 = .ok (.iaload, 1) := by decide +kernel
theorem dL_159 : decode code 159 = .ok (.aload_n 0, 1) := by decide +kernel
theorem dL_160 : decode code 160 = .ok (.iload_n 3, 1) := by decide +kernel
theorem dL_161 : decode code 161 = .ok (.iconst 3, 1) := by decide +kernel
theorem dL_162 : decode code 162 = .ok (.iadd, 1) := by decide +kernel
theorem dL_163 : decode code 163 = .ok (.iaload, 1) := by decide +kernel
theorem dL_164 : decode code 164 = .ok (.invokevirtual 21, 3) := by decide +kernel
theorem dL_167 : decode code 167 = .ok (.aload_n 2, 1) := by decide +kernel
theorem dL_168 : decode code 168 = .ok (.aload_n 0, 1) := by decide +kernel
theorem dL_169 : decode code 169 = .ok (.iload_n 3, 1) := by decide +kernel
theorem dL_170 : decode code 170 = .ok (.iconst 1, 1) := by decide +kernel
theorem dL_171 : decode code 171 = .ok (.iadd, 1) := by decide +kernel
theorem dL_172 : decode code 172 = .ok (.iaload, 1) := by decide +kernel
theorem dL_173 : decode code 173 = .ok (.aload_n 0, 1) := by decide +kernel
theorem dL_174 : decode code 174 = .ok (.iload_n 3, 1) := by decide +kernel
theorem dL_175 : decode code 175 = .ok (.iconst 2, 1) := by decide +kernel
theorem dL_176 : decode code 176 = .ok (.iadd, 1) := by decide +kernel
theorem dL_177 : decode code 177 = .ok (.iaload, 1) := by decide +kernel
theorem dL_178 : decode code 178 = .ok (.aload_n 0, 1) := by decide +kernel
theorem dL_179 : decode code 179 = .ok (.iload_n 3, 1) := by decide +kernel
theorem dL_180 : decode code 180 = .ok (.iconst 3, 1) := by decide +kernel
theorem dL_181 : decode code 181 = .ok (.iadd, 1) := by decide +kernel
theorem dL_182 : decode code 182 = .ok (.iaload, 1) := by decide +kernel
theorem dL_183 : decode code 183 = .ok (.invokevirtual 25, 3) := by decide +kernel
theorem dL_186 : decode code 186 = .ok (.if_icmp .eq (709), 3) := by decide +kernel
theorem dL_189 : decode code 189 = .ok (.iconst 0, 1) := by decide +kernel
theorem dL_190 : decode code 190 = .ok (.ireturn, 1) := by decide +kernel
theorem dL_191 : decode code 191 = .ok (.aload_n 1, 1) := by decide +kernel
theorem dL_192 : decode code 192 = .ok (.aload_n 0, 1) := by decide +kernel
theorem dL_193 : decode code 193 = .ok (.iload_n 3, 1) := by decide +kernel
theorem dL_194 : decode code 194 = .ok (.iconst 1, 1) := by decide +kernel
theorem dL_195 : decode code 195 = .ok (.iadd, 1) := by decide +kernel
theorem dL_196 : decode code 196 = .ok (.iaload, 1) := by decide +kernel
theorem dL_197 : decode code 197 = .ok (.invokevirtual 26, 3) := by decide +kernel
theorem dL_200 : decode code 200 = .ok (.aload_n 2, 1) := by decide +kernel
theorem dL_201 : decode code 201 = .ok (.aload_n 0, 1) := by decide +kernel
theorem dL_202 : decode code 202 = .ok (.iload_n 3, 1) := by decide +kernel
theorem dL_203 : decode code 203 = .ok (.iconst 1, 1) := by decide +kernel
theorem dL_204 : decode code 204 = .ok (.iadd, 1) := by decide +kernel
theorem dL_205 : decode code 205 = .ok (.iaload, 1) := by decide +kernel
theorem dL_206 : decode code 206 = .ok (.invokevirtual 30, 3) := by decide +kernel
theorem dL_209 : decode code 209 = .ok (.if_icmp .eq (686), 3) := by decide +kernel
theorem dL_212 : decode code 212 = .ok (.iconst 0, 1) := by decide +kernel
theorem dL_213 : decode code 213 = .ok (.ireturn, 1) := by decide +kernel
theorem dL_214 : decode code 214 = .ok (.aload_n 1, 1) := by decide +kernel
theorem dL_215 : decode code 215 = .ok (.aload_n 0, 1) := by decide +kernel
theorem dL_216 : decode code 216 = .ok (.iload_n 3, 1) := by decide +kernel
theorem dL_217 : decode code 217 = .ok (.iconst 1, 1) := by decide +kernel
theorem dL_218 : decode code 218 = .ok (.iadd, 1) := by decide +kernel
theorem dL_219 : decode code 219 = .ok (.iaload, 1) := by decide +kernel
theorem dL_220 : decode code 220 = .ok (.aload_n 0, 1) := by decide +kernel
theorem dL_221 : decode code 221 = .ok (.iload_n 3, 1) := by decide +kernel
theorem dL_222 : decode code 222 = .ok (.iconst 2, 1) := by decide +kernel
theorem dL_223 : decode code 223 = .ok (.iadd, 1) := by decide +kernel
theorem dL_224 : decode code 224 = .ok (.iaload, 1) := by decide +kernel
theorem dL_225 : decode code 225 = .ok (.aload_n 0, 1) := by decide +kernel
theorem dL_226 : decode code 226 = .ok (.iload_n 3, 1) := by decide +kernel
theorem dL_227 : decode code 227 = .ok (.iconst 3, 1) := by decide +kernel
theorem dL_228 : decode code 228 = .ok (.iadd, 1) := by decide +kernel
theorem dL_229 : decode code 229 = .ok (.iaload, 1) := by decide +kernel
theorem dL_230 : decode code 230 = .ok (.invokevirtual 31, 3) := by decide +kernel
theorem dL_233 : decode code 233 = .ok (.aload_n 2, 1) := by decide +kernel
theorem dL_234 : decode code 234 = .ok (.aload_n 0, 1) := by decide +kernel
theorem dL_235 : decode code 235 = .ok (.iload_n 3, 1) := by decide +kernel
theorem dL_236 : decode code 236 = .ok (.iconst 1, 1) := by decide +kernel
theorem dL_237 : decode code 237 = .ok (.iadd, 1) := by decide +kernel
