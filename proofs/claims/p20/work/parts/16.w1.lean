section
theorem dM_0 : decode code 0 = .ok (.new 8, 3) ∧ decode code 3 = .ok (.dup, 1) ∧ decode code 4 = .ok (.invokespecial 54, 3) ∧ decode code 7 = .ok (.astore_n 1, 1) ∧ decode code 8 = .ok (.new 55, 3) ∧ decode code 11 = .ok (.dup, 1) ∧ decode code 12 = .ok (.invokespecial 57, 3) ∧ decode code 15 = .ok (.astore_n 2, 1) ∧ decode code 16 = .ok (.iconst 1, 1) ∧ decode code 17 = .ok (.newarray .long, 2) := by decide +kernel
theorem dL_0 : decode code 0 = .ok (.new 8, 3) := dM_0.1
theorem dL_3 : decode code 3 = .ok (.dup, 1) := dM_0.2.1
theorem dL_4 : decode code 4 = .ok (.invokespecial 54, 3) := dM_0.2.2.1
theorem dL_7 : decode code 7 = .ok (.astore_n 1, 1) := dM_0.2.2.2.1
theorem dL_8 : decode code 8 = .ok (.new 55, 3) := dM_0.2.2.2.2.1
theorem dL_11 : decode code 11 = .ok (.dup, 1) := dM_0.2.2.2.2.2.1
theorem dL_12 : decode code 12 = .ok (.invokespecial 57, 3) := dM_0.2.2.2.2.2.2.1
theorem dL_15 : decode code 15 = .ok (.astore_n 2, 1) := dM_0.2.2.2.2.2.2.2.1
theorem dL_16 : decode code 16 = .ok (.iconst 1, 1) := dM_0.2.2.2.2.2.2.2.2.1
theorem dL_17 : decode code 17 = .ok (.newarray .long, 2) := dM_0.2.2.2.2.2.2.2.2.2
theorem dM_19 : decode code 19 = .ok (.astore_n 3, 1) ∧ decode code 20 = .ok (.iconst 0, 1) ∧ decode code 21 = .ok (.istore 4, 2) ∧ decode code 23 = .ok (.iload 4, 2) ∧ decode code 25 = .ok (.aload_n 0, 1) ∧ decode code 26 = .ok (.arraylength, 1) ∧ decode code 27 = .ok (.bipush 6, 2) ∧ decode code 29 = .ok (.isub, 1) ∧ decode code 30 = .ok (.if_icmp .gt 1044, 3) ∧ decode code 33 = .ok (.aload_n 0, 1) := by decide +kernel
theorem dL_19 : decode code 19 = .ok (.astore_n 3, 1) := dM_19.1
theorem dL_20 : decode code 20 = .ok (.iconst 0, 1) := dM_19.2.1
theorem dL_21 : decode code 21 = .ok (.istore 4, 2) := dM_19.2.2.1
theorem dL_23 : decode code 23 = .ok (.iload 4, 2) := dM_19.2.2.2.1
theorem dL_25 : decode code 25 = .ok (.aload_n 0, 1) := dM_19.2.2.2.2.1
theorem dL_26 : decode code 26 = .ok (.arraylength, 1) := dM_19.2.2.2.2.2.1
theorem dL_27 : decode code 27 = .ok (.bipush 6, 2) := dM_19.2.2.2.2.2.2.1
theorem dL_29 : decode code 29 = .ok (.isub, 1) := dM_19.2.2.2.2.2.2.2.1
theorem dL_30 : decode code 30 = .ok (.if_icmp .gt 1044, 3) := dM_19.2.2.2.2.2.2.2.2.1
theorem jL_30 : mz_t 30 1044 = 1074 ∧ (0 ≤ ((30 : Nat) : Int) + 1044) := by decide +kernel
theorem dL_33 : decode code 33 = .ok (.aload_n 0, 1) := dM_19.2.2.2.2.2.2.2.2.2
theorem dM_34 : decode code 34 = .ok (.iload 4, 2) ∧ decode code 36 = .ok (.iaload, 1) ∧ decode code 37 = .ok (.bipush 31, 2) ∧ decode code 39 = .ok (.iand, 1) ∧ decode code 40 = .ok (.tableswitch 1028 0 18 #[92, 205, 254, 279, 328, 396, 448, 512, 588, 640, 692, 756, 796, 845, 897, 937, 965, 978, 1003], 92) := by decide +kernel
theorem dL_34 : decode code 34 = .ok (.iload 4, 2) := dM_34.1
theorem dL_36 : decode code 36 = .ok (.iaload, 1) := dM_34.2.1
theorem dL_37 : decode code 37 = .ok (.bipush 31, 2) := dM_34.2.2.1
theorem dL_39 : decode code 39 = .ok (.iand, 1) := dM_34.2.2.2.1
theorem dL_40 : decode code 40 = .ok (.tableswitch 1028 0 18 #[92, 205, 254, 279, 328, 396, 448, 512, 588, 640, 692, 756, 796, 845, 897, 937, 965, 978, 1003], 92) := dM_34.2.2.2.2
theorem dL_h : decode code 0 = .ok (.new 8, 3) ∧ decode code 3 = .ok (.dup, 1) ∧ decode code 4 = .ok (.invokespecial 54, 3) ∧ decode code 7 = .ok (.astore_n 1, 1) ∧ decode code 8 = .ok (.new 55, 3) ∧ decode code 11 = .ok (.dup, 1) ∧ decode code 12 = .ok (.invokespecial 57, 3) ∧ decode code 15 = .ok (.astore_n 2, 1) ∧ decode code 16 = .ok (.iconst 1, 1) ∧ decode code 17 = .ok (.newarray .long, 2) ∧ decode code 19 = .ok (.astore_n 3, 1) ∧ decode code 20 = .ok (.iconst 0, 1) ∧ decode code 21 = .ok (.istore 4, 2) ∧ decode code 23 = .ok (.iload 4, 2) ∧ decode code 25 = .ok (.aload_n 0, 1) ∧ decode code 26 = .ok (.arraylength, 1) ∧ decode code 27 = .ok (.bipush 6, 2) ∧ decode code 29 = .ok (.isub, 1) ∧ decode code 30 = .ok (.if_icmp .gt 1044, 3) ∧ decode code 33 = .ok (.aload_n 0, 1) ∧ decode code 34 = .ok (.iload 4, 2) ∧ decode code 36 = .ok (.iaload, 1) ∧ decode code 37 = .ok (.bipush 31, 2) ∧ decode code 39 = .ok (.iand, 1) ∧ decode code 40 = .ok (.tableswitch 1028 0 18 #[92, 205, 254, 279, 328, 396, 448, 512, 588, 640, 692, 756, 796, 845, 897, 937, 965, 978, 1003], 92) := ⟨dL_0, dL_3, dL_4, dL_7, dL_8, dL_11, dL_12, dL_15, dL_16, dL_17, dL_19, dL_20, dL_21, dL_23, dL_25, dL_26, dL_27, dL_29, dL_30, dL_33, dL_34, dL_36, dL_37, dL_39, dL_40⟩
theorem jL_h : mz_t 30 1044 = 1074 ∧ (0 ≤ ((30 : Nat) : Int) + 1044) := by decide +kernel
theorem dM_132 : decode code 132 = .ok (.aload_n 1, 1) ∧ decode code 133 = .ok (.aload_n 0, 1) ∧ decode code 134 = .ok (.iload 4, 2) ∧ decode code 136 = .ok (.iconst 1, 1) ∧ decode code 137 = .ok (.iadd, 1) ∧ decode code 138 = .ok (.iaload, 1) ∧ decode code 139 = .ok (.aload_n 0, 1) ∧ decode code 140 = .ok (.iload 4, 2) ∧ decode code 142 = .ok (.iconst 2, 1) ∧ decode code 143 = .ok (.iadd, 1) := by decide +kernel
theorem dL_132 : decode code 132 = .ok (.aload_n 1, 1) := dM_132.1
theorem dL_133 : decode code 133 = .ok (.aload_n 0, 1) := dM_132.2.1
theorem dL_134 : decode code 134 = .ok (.iload 4, 2) := dM_132.2.2.1
theorem dL_136 : decode code 136 = .ok (.iconst 1, 1) := dM_132.2.2.2.1
theorem dL_137 : decode code 137 = .ok (.iadd, 1) := dM_132.2.2.2.2.1
theorem dL_138 : decode code 138 = .ok (.iaload, 1) := dM_132.2.2.2.2.2.1
theorem dL_139 : decode code 139 = .ok (.aload_n 0, 1) := dM_132.2.2.2.2.2.2.1
theorem dL_140 : decode code 140 = .ok (.iload 4, 2) := dM_132.2.2.2.2.2.2.2.1
theorem dL_142 : decode code 142 = .ok (.iconst 2, 1) := dM_132.2.2.2.2.2.2.2.2.1
theorem dL_143 : decode code 143 = .ok (.iadd, 1) := dM_132.2.2.2.2.2.2.2.2.2
theorem dM_144 : decode code 144 = .ok (.iaload, 1) ∧ decode code 145 = .ok (.i2l, 1) ∧ decode code 146 = .ok (.bipush 32, 2) ∧ decode code 148 = .ok (.lshl, 1) ∧ decode code 149 = .ok (.aload_n 0, 1) ∧ decode code 150 = .ok (.iload 4, 2) ∧ decode code 152 = .ok (.iconst 3, 1) ∧ decode code 153 = .ok (.iadd, 1) ∧ decode code 154 = .ok (.iaload, 1) ∧ decode code 155 = .ok (.i2l, 1) := by decide +kernel
theorem dL_144 : decode code 144 = .ok (.iaload, 1) := dM_144.1
theorem dL_145 : decode code 145 = .ok (.i2l, 1) := dM_144.2.1
theorem dL_146 : decode code 146 = .ok (.bipush 32, 2) := dM_144.2.2.1
theorem dL_148 : decode code 148 = .ok (.lshl, 1) := dM_144.2.2.2.1
theorem dL_149 : decode code 149 = .ok (.aload_n 0, 1) := dM_144.2.2.2.2.1
theorem dL_150 : decode code 150 = .ok (.iload 4, 2) := dM_144.2.2.2.2.2.1
theorem dL_152 : decode code 152 = .ok (.iconst 3, 1) := dM_144.2.2.2.2.2.2.1
theorem dL_153 : decode code 153 = .ok (.iadd, 1) := dM_144.2.2.2.2.2.2.2.1
theorem dL_154 : decode code 154 = .ok (.iaload, 1) := dM_144.2.2.2.2.2.2.2.2.1
theorem dL_155 : decode code 155 = .ok (.i2l, 1) := dM_144.2.2.2.2.2.2.2.2.2
theorem dM_156 : decode code 156 = .ok (.ldc2_w 58, 3) ∧ decode code 159 = .ok (.land, 1) ∧ decode code 160 = .ok (.lor, 1) ∧ decode code 161 = .ok (.aload_n 0, 1) ∧ decode code 162 = .ok (.iload 4, 2) ∧ decode code 164 = .ok (.iconst 4, 1) ∧ decode code 165 = .ok (.iadd, 1) ∧ decode code 166 = .ok (.iaload, 1) ∧ decode code 167 = .ok (.i2l, 1) ∧ decode code 168 = .ok (.bipush 32, 2) := by decide +kernel
theorem dL_156 : decode code 156 = .ok (.ldc2_w 58, 3) := dM_156.1
theorem dL_159 : decode code 159 = .ok (.land, 1) := dM_156.2.1
theorem dL_160 : decode code 160 = .ok (.lor, 1) := dM_156.2.2.1
theorem dL_161 : decode code 161 = .ok (.aload_n 0, 1) := dM_156.2.2.2.1
theorem dL_162 : decode code 162 = .ok (.iload 4, 2) := dM_156.2.2.2.2.1
theorem dL_164 : decode code 164 = .ok (.iconst 4, 1) := dM_156.2.2.2.2.2.1
theorem dL_165 : decode code 165 = .ok (.iadd, 1) := dM_156.2.2.2.2.2.2.1
theorem dL_166 : decode code 166 = .ok (.iaload, 1) := dM_156.2.2.2.2.2.2.2.1
theorem dL_167 : decode code 167 = .ok (.i2l, 1) := dM_156.2.2.2.2.2.2.2.2.1
theorem dL_168 : decode code 168 = .ok (.bipush 32, 2) := dM_156.2.2.2.2.2.2.2.2.2
theorem dM_170 : decode code 170 = .ok (.lshl, 1) ∧ decode code 171 = .ok (.aload_n 0, 1) ∧ decode code 172 = .ok (.iload 4, 2) ∧ decode code 174 = .ok (.iconst 5, 1) ∧ decode code 175 = .ok (.iadd, 1) ∧ decode code 176 = .ok (.iaload, 1) ∧ decode code 177 = .ok (.i2l, 1) ∧ decode code 178 = .ok (.ldc2_w 58, 3) ∧ decode code 181 = .ok (.land, 1) ∧ decode code 182 = .ok (.lor, 1) := by decide +kernel
theorem dL_170 : decode code 170 = .ok (.lshl, 1) := dM_170.1
theorem dL_171 : decode code 171 = .ok (.aload_n 0, 1) := dM_170.2.1
theorem dL_172 : decode code 172 = .ok (.iload 4, 2) := dM_170.2.2.1
theorem dL_174 : decode code 174 = .ok (.iconst 5, 1) := dM_170.2.2.2.1
theorem dL_175 : decode code 175 = .ok (.iadd, 1) := dM_170.2.2.2.2.1
theorem dL_176 : decode code 176 = .ok (.iaload, 1) := dM_170.2.2.2.2.2.1
theorem dL_177 : decode code 177 = .ok (.i2l, 1) := dM_170.2.2.2.2.2.2.1
theorem dL_178 : decode code 178 = .ok (.ldc2_w 58, 3) := dM_170.2.2.2.2.2.2.2.1
theorem dL_181 : decode code 181 = .ok (.land, 1) := dM_170.2.2.2.2.2.2.2.2.1
theorem dL_182 : decode code 182 = .ok (.lor, 1) := dM_170.2.2.2.2.2.2.2.2.2
theorem dM_183 : decode code 183 = .ok (.invokevirtual 60, 3) ∧ decode code 186 = .ok (.pop, 1) ∧ decode code 187 = .ok (.aload_n 2, 1) ∧ decode code 188 = .ok (.aload_n 0, 1) ∧ decode code 189 = .ok (.iload 4, 2) ∧ decode code 191 = .ok (.iconst 1, 1) ∧ decode code 192 = .ok (.iadd, 1) ∧ decode code 193 = .ok (.iaload, 1) ∧ decode code 194 = .ok (.aload_n 0, 1) ∧ decode code 195 = .ok (.iload 4, 2) := by decide +kernel
theorem dL_183 : decode code 183 = .ok (.invokevirtual 60, 3) := dM_183.1
theorem dL_186 : decode code 186 = .ok (.pop, 1) := dM_183.2.1
theorem dL_187 : decode code 187 = .ok (.aload_n 2, 1) := dM_183.2.2.1
theorem dL_188 : decode code 188 = .ok (.aload_n 0, 1) := dM_183.2.2.2.1
theorem dL_189 : decode code 189 = .ok (.iload 4, 2) := dM_183.2.2.2.2.1
theorem dL_191 : decode code 191 = .ok (.iconst 1, 1) := dM_183.2.2.2.2.2.1
theorem dL_192 : decode code 192 = .ok (.iadd, 1) := dM_183.2.2.2.2.2.2.1
theorem dL_193 : decode code 193 = .ok (.iaload, 1) := dM_183.2.2.2.2.2.2.2.1
theorem dL_194 : decode code 194 = .ok (.aload_n 0, 1) := dM_183.2.2.2.2.2.2.2.2.1
theorem dL_195 : decode code 195 = .ok (.iload 4, 2) := dM_183.2.2.2.2.2.2.2.2.2
theorem dM_197 : decode code 197 = .ok (.iconst 2, 1) ∧ decode code 198 = .ok (.iadd, 1) ∧ decode code 199 = .ok (.iaload, 1) ∧ decode code 200 = .ok (.i2l, 1) ∧ decode code 201 = .ok (.bipush 32, 2) ∧ decode code 203 = .ok (.lshl, 1) ∧ decode code 204 = .ok (.aload_n 0, 1) ∧ decode code 205 = .ok (.iload 4, 2) ∧ decode code 207 = .ok (.iconst 3, 1) ∧ decode code 208 = .ok (.iadd, 1) := by decide +kernel
theorem dL_197 : decode code 197 = .ok (.iconst 2, 1) := dM_197.1
theorem dL_198 : decode code 198 = .ok (.iadd, 1) := dM_197.2.1
theorem dL_199 : decode code 199 = .ok (.iaload, 1) := dM_197.2.2.1
theorem dL_200 : decode code 200 = .ok (.i2l, 1) := dM_197.2.2.2.1
theorem dL_201 : decode code 201 = .ok (.bipush 32, 2) := dM_197.2.2.2.2.1
theorem dL_203 : decode code 203 = .ok (.lshl, 1) := dM_197.2.2.2.2.2.1
theorem dL_204 : decode code 204 = .ok (.aload_n 0, 1) := dM_197.2.2.2.2.2.2.1
theorem dL_205 : decode code 205 = .ok (.iload 4, 2) := dM_197.2.2.2.2.2.2.2.1
theorem dL_207 : decode code 207 = .ok (.iconst 3, 1) := dM_197.2.2.2.2.2.2.2.2.1
theorem dL_208 : decode code 208 = .ok (.iadd, 1) := dM_197.2.2.2.2.2.2.2.2.2
theorem dM_209 : decode code 209 = .ok (.iaload, 1) ∧ decode code 210 = .ok (.i2l, 1) ∧ decode code 211 = .ok (.ldc2_w 58, 3) ∧ decode code 214 = .ok (.land, 1) ∧ decode code 215 = .ok (.lor, 1) ∧ decode code 216 = .ok (.aload_n 0, 1) ∧ decode code 217 = .ok (.iload 4, 2) ∧ decode code 219 = .ok (.iconst 4, 1) ∧ decode code 220 = .ok (.iadd, 1) ∧ decode code 221 = .ok (.iaload, 1) := by decide +kernel
theorem dL_209 : decode code 209 = .ok (.iaload, 1) := dM_209.1
theorem dL_210 : decode code 210 = .ok (.i2l, 1) := dM_209.2.1
theorem dL_211 : decode code 211 = .ok (.ldc2_w 58, 3) := dM_209.2.2.1
theorem dL_214 : decode code 214 = .ok (.land, 1) := dM_209.2.2.2.1
theorem dL_215 : decode code 215 = .ok (.lor, 1) := dM_209.2.2.2.2.1
theorem dL_216 : decode code 216 = .ok (.aload_n 0, 1) := dM_209.2.2.2.2.2.1
theorem dL_217 : decode code 217 = .ok (.iload 4, 2) := dM_209.2.2.2.2.2.2.1
theorem dL_219 : decode code 219 = .ok (.iconst 4, 1) := dM_209.2.2.2.2.2.2.2.1
theorem dL_220 : decode code 220 = .ok (.iadd, 1) := dM_209.2.2.2.2.2.2.2.2.1
theorem dL_221 : decode code 221 = .ok (.iaload, 1) := dM_209.2.2.2.2.2.2.2.2.2
theorem dM_222 : decode code 222 = .ok (.i2l, 1) ∧ decode code 223 = .ok (.bipush 32, 2) ∧ decode code 225 = .ok (.lshl, 1) ∧ decode code 226 = .ok (.aload_n 0, 1) ∧ decode code 227 = .ok (.iload 4, 2) ∧ decode code 229 = .ok (.iconst 5, 1) ∧ decode code 230 = .ok (.iadd, 1) ∧ decode code 231 = .ok (.iaload, 1) ∧ decode code 232 = .ok (.i2l, 1) ∧ decode code 233 = .ok (.ldc2_w 58, 3) := by decide +kernel
theorem dL_222 : decode code 222 = .ok (.i2l, 1) := dM_222.1
theorem dL_223 : decode code 223 = .ok (.bipush 32, 2) := dM_222.2.1
theorem dL_225 : decode code 225 = .ok (.lshl, 1) := dM_222.2.2.1
theorem dL_226 : decode code 226 = .ok (.aload_n 0, 1) := dM_222.2.2.2.1
theorem dL_227 : decode code 227 = .ok (.iload 4, 2) := dM_222.2.2.2.2.1
theorem dL_229 : decode code 229 = .ok (.iconst 5, 1) := dM_222.2.2.2.2.2.1
theorem dL_230 : decode code 230 = .ok (.iadd, 1) := dM_222.2.2.2.2.2.2.1
theorem dL_231 : decode code 231 = .ok (.iaload, 1) := dM_222.2.2.2.2.2.2.2.1
theorem dL_232 : decode code 232 = .ok (.i2l, 1) := dM_222.2.2.2.2.2.2.2.2.1
theorem dL_233 : decode code 233 = .ok (.ldc2_w 58, 3) := dM_222.2.2.2.2.2.2.2.2.2
theorem dM_236 : decode code 236 = .ok (.land, 1) ∧ decode code 237 = .ok (.lor, 1) ∧ decode code 238 = .ok (.invokevirtual 64, 3) ∧ decode code 241 = .ok (.pop, 1) ∧ decode code 242 = .ok (.goto 826, 3) := by decide +kernel
theorem dL_236 : decode code 236 = .ok (.land, 1) := dM_236.1
theorem dL_237 : decode code 237 = .ok (.lor, 1) := dM_236.2.1
theorem dL_238 : decode code 238 = .ok (.invokevirtual 64, 3) := dM_236.2.2.1
theorem dL_241 : decode code 241 = .ok (.pop, 1) := dM_236.2.2.2.1
theorem dL_242 : decode code 242 = .ok (.goto 826, 3) := dM_236.2.2.2.2
theorem jL_242 : mz_t 242 826 = 1068 ∧ (0 ≤ ((242 : Nat) : Int) + 826) := by decide +kernel
theorem dM_245 : decode code 245 = .ok (.aload_n 1, 1) ∧ decode code 246 = .ok (.aload_n 0, 1) ∧ decode code 247 = .ok (.iload 4, 2) ∧ decode code 249 = .ok (.iconst 1, 1) ∧ decode code 250 = .ok (.iadd, 1) ∧ decode code 251 = .ok (.iaload, 1) ∧ decode code 252 = .ok (.aload_n 0, 1) ∧ decode code 253 = .ok (.iload 4, 2) ∧ decode code 255 = .ok (.iconst 2, 1) ∧ decode code 256 = .ok (.iadd, 1) := by decide +kernel
theorem dL_245 : decode code 245 = .ok (.aload_n 1, 1) := dM_245.1
theorem dL_246 : decode code 246 = .ok (.aload_n 0, 1) := dM_245.2.1
theorem dL_247 : decode code 247 = .ok (.iload 4, 2) := dM_245.2.2.1
theorem dL_249 : decode code 249 = .ok (.iconst 1, 1) := dM_245.2.2.2.1
theorem dL_250 : decode code 250 = .ok (.iadd, 1) := dM_245.2.2.2.2.1
theorem dL_251 : decode code 251 = .ok (.iaload, 1) := dM_245.2.2.2.2.2.1
theorem dL_252 : decode code 252 = .ok (.aload_n 0, 1) := dM_245.2.2.2.2.2.2.1
theorem dL_253 : decode code 253 = .ok (.iload 4, 2) := dM_245.2.2.2.2.2.2.2.1
theorem dL_255 : decode code 255 = .ok (.iconst 2, 1) := dM_245.2.2.2.2.2.2.2.2.1
theorem dL_256 : decode code 256 = .ok (.iadd, 1) := dM_245.2.2.2.2.2.2.2.2.2
theorem dM_257 : decode code 257 = .ok (.iaload, 1) ∧ decode code 258 = .ok (.aload_n 0, 1) ∧ decode code 259 = .ok (.iload 4, 2) ∧ decode code 261 = .ok (.iconst 3, 1) ∧ decode code 262 = .ok (.iadd, 1) ∧ decode code 263 = .ok (.iaload, 1) ∧ decode code 264 = .ok (.invokevirtual 65, 3) ∧ decode code 267 = .ok (.pop, 1) ∧ decode code 268 = .ok (.aload_n 2, 1) ∧ decode code 269 = .ok (.aload_n 0, 1) := by decide +kernel
theorem dL_257 : decode code 257 = .ok (.iaload, 1) := dM_257.1
theorem dL_258 : decode code 258 = .ok (.aload_n 0, 1) := dM_257.2.1
theorem dL_259 : decode code 259 = .ok (.iload 4, 2) := dM_257.2.2.1
theorem dL_261 : decode code 261 = .ok (.iconst 3, 1) := dM_257.2.2.2.1
theorem dL_262 : decode code 262 = .ok (.iadd, 1) := dM_257.2.2.2.2.1
theorem dL_263 : decode code 263 = .ok (.iaload, 1) := dM_257.2.2.2.2.2.1
theorem dL_264 : decode code 264 = .ok (.invokevirtual 65, 3) := dM_257.2.2.2.2.2.2.1
theorem dL_267 : decode code 267 = .ok (.pop, 1) := dM_257.2.2.2.2.2.2.2.1
theorem dL_268 : decode code 268 = .ok (.aload_n 2, 1) := dM_257.2.2.2.2.2.2.2.2.1
theorem dL_269 : decode code 269 = .ok (.aload_n 0, 1) := dM_257.2.2.2.2.2.2.2.2.2
theorem dM_270 : decode code 270 = .ok (.iload 4, 2) ∧ decode code 272 = .ok (.iconst 1, 1) ∧ decode code 273 = .ok (.iadd, 1) ∧ decode code 274 = .ok (.iaload, 1) ∧ decode code 275 = .ok (.aload_n 0, 1) ∧ decode code 276 = .ok (.iload 4, 2) ∧ decode code 278 = .ok (.iconst 2, 1) ∧ decode code 279 = .ok (.iadd, 1) ∧ decode code 280 = .ok (.iaload, 1) ∧ decode code 281 = .ok (.aload_n 0, 1) := by decide +kernel
theorem dL_270 : decode code 270 = .ok (.iload 4, 2) := dM_270.1
theorem dL_272 : decode code 272 = .ok (.iconst 1, 1) := dM_270.2.1
theorem dL_273 : decode code 273 = .ok (.iadd, 1) := dM_270.2.2.1
theorem dL_274 : decode code 274 = .ok (.iaload, 1) := dM_270.2.2.2.1
theorem dL_275 : decode code 275 = .ok (.aload_n 0, 1) := dM_270.2.2.2.2.1
theorem dL_276 : decode code 276 = .ok (.iload 4, 2) := dM_270.2.2.2.2.2.1
theorem dL_278 : decode code 278 = .ok (.iconst 2, 1) := dM_270.2.2.2.2.2.2.1
theorem dL_279 : decode code 279 = .ok (.iadd, 1) := dM_270.2.2.2.2.2.2.2.1
theorem dL_280 : decode code 280 = .ok (.iaload, 1) := dM_270.2.2.2.2.2.2.2.2.1
theorem dL_281 : decode code 281 = .ok (.aload_n 0, 1) := dM_270.2.2.2.2.2.2.2.2.2
theorem dM_282 : decode code 282 = .ok (.iload 4, 2) ∧ decode code 284 = .ok (.iconst 3, 1) ∧ decode code 285 = .ok (.iadd, 1) ∧ decode code 286 = .ok (.iaload, 1) ∧ decode code 287 = .ok (.invokevirtual 69, 3) ∧ decode code 290 = .ok (.pop, 1) ∧ decode code 291 = .ok (.goto 777, 3) := by decide +kernel
theorem dL_282 : decode code 282 = .ok (.iload 4, 2) := dM_282.1
theorem dL_284 : decode code 284 = .ok (.iconst 3, 1) := dM_282.2.1
theorem dL_285 : decode code 285 = .ok (.iadd, 1) := dM_282.2.2.1
theorem dL_286 : decode code 286 = .ok (.iaload, 1) := dM_282.2.2.2.1
theorem dL_287 : decode code 287 = .ok (.invokevirtual 69, 3) := dM_282.2.2.2.2.1
theorem dL_290 : decode code 290 = .ok (.pop, 1) := dM_282.2.2.2.2.2.1
theorem dL_291 : decode code 291 = .ok (.goto 777, 3) := dM_282.2.2.2.2.2.2
theorem jL_291 : mz_t 291 777 = 1068 ∧ (0 ≤ ((291 : Nat) : Int) + 777) := by decide +kernel
theorem dM_294 : decode code 294 = .ok (.aload_n 1, 1) ∧ decode code 295 = .ok (.aload_n 0, 1) ∧ decode code 296 = .ok (.iload 4, 2) ∧ decode code 298 = .ok (.iconst 1, 1) ∧ decode code 299 = .ok (.iadd, 1) ∧ decode code 300 = .ok (.iaload, 1) ∧ decode code 301 = .ok (.invokevirtual 70, 3) ∧ decode code 304 = .ok (.pop, 1) ∧ decode code 305 = .ok (.aload_n 2, 1) ∧ decode code 306 = .ok (.aload_n 0, 1) := by decide +kernel
theorem dL_294 : decode code 294 = .ok (.aload_n 1, 1) := dM_294.1
theorem dL_295 : decode code 295 = .ok (.aload_n 0, 1) := dM_294.2.1
theorem dL_296 : decode code 296 = .ok (.iload 4, 2) := dM_294.2.2.1
theorem dL_298 : decode code 298 = .ok (.iconst 1, 1) := dM_294.2.2.2.1
theorem dL_299 : decode code 299 = .ok (.iadd, 1) := dM_294.2.2.2.2.1
theorem dL_300 : decode code 300 = .ok (.iaload, 1) := dM_294.2.2.2.2.2.1
theorem dL_301 : decode code 301 = .ok (.invokevirtual 70, 3) := dM_294.2.2.2.2.2.2.1
theorem dL_304 : decode code 304 = .ok (.pop, 1) := dM_294.2.2.2.2.2.2.2.1
theorem dL_305 : decode code 305 = .ok (.aload_n 2, 1) := dM_294.2.2.2.2.2.2.2.2.1
theorem dL_306 : decode code 306 = .ok (.aload_n 0, 1) := dM_294.2.2.2.2.2.2.2.2.2
theorem dM_307 : decode code 307 = .ok (.iload 4, 2) ∧ decode code 309 = .ok (.iconst 1, 1) ∧ decode code 310 = .ok (.iadd, 1) ∧ decode code 311 = .ok (.iaload, 1) ∧ decode code 312 = .ok (.invokevirtual 73, 3) ∧ decode code 315 = .ok (.pop, 1) ∧ decode code 316 = .ok (.goto 752, 3) := by decide +kernel
theorem dL_307 : decode code 307 = .ok (.iload 4, 2) := dM_307.1
theorem dL_309 : decode code 309 = .ok (.iconst 1, 1) := dM_307.2.1
theorem dL_310 : decode code 310 = .ok (.iadd, 1) := dM_307.2.2.1
theorem dL_311 : decode code 311 = .ok (.iaload, 1) := dM_307.2.2.2.1
theorem dL_312 : decode code 312 = .ok (.invokevirtual 73, 3) := dM_307.2.2.2.2.1
theorem dL_315 : decode code 315 = .ok (.pop, 1) := dM_307.2.2.2.2.2.1
theorem dL_316 : decode code 316 = .ok (.goto 752, 3) := dM_307.2.2.2.2.2.2
theorem jL_316 : mz_t 316 752 = 1068 ∧ (0 ≤ ((316 : Nat) : Int) + 752) := by decide +kernel
theorem dM_319 : decode code 319 = .ok (.aload_n 1, 1) ∧ decode code 320 = .ok (.aload_n 0, 1) ∧ decode code 321 = .ok (.iload 4, 2) ∧ decode code 323 = .ok (.iconst 1, 1) ∧ decode code 324 = .ok (.iadd, 1) ∧ decode code 325 = .ok (.iaload, 1) ∧ decode code 326 = .ok (.aload_n 0, 1) ∧ decode code 327 = .ok (.iload 4, 2) ∧ decode code 329 = .ok (.iconst 2, 1) ∧ decode code 330 = .ok (.iadd, 1) := by decide +kernel
theorem dL_319 : decode code 319 = .ok (.aload_n 1, 1) := dM_319.1
theorem dL_320 : decode code 320 = .ok (.aload_n 0, 1) := dM_319.2.1
theorem dL_321 : decode code 321 = .ok (.iload 4, 2) := dM_319.2.2.1
theorem dL_323 : decode code 323 = .ok (.iconst 1, 1) := dM_319.2.2.2.1
theorem dL_324 : decode code 324 = .ok (.iadd, 1) := dM_319.2.2.2.2.1
theorem dL_325 : decode code 325 = .ok (.iaload, 1) := dM_319.2.2.2.2.2.1
theorem dL_326 : decode code 326 = .ok (.aload_n 0, 1) := dM_319.2.2.2.2.2.2.1
theorem dL_327 : decode code 327 = .ok (.iload 4, 2) := dM_319.2.2.2.2.2.2.2.1
theorem dL_329 : decode code 329 = .ok (.iconst 2, 1) := dM_319.2.2.2.2.2.2.2.2.1
theorem dL_330 : decode code 330 = .ok (.iadd, 1) := dM_319.2.2.2.2.2.2.2.2.2
theorem dM_331 : decode code 331 = .ok (.iaload, 1) ∧ decode code 332 = .ok (.aload_n 0, 1) ∧ decode code 333 = .ok (.iload 4, 2) ∧ decode code 335 = .ok (.iconst 3, 1) ∧ decode code 336 = .ok (.iadd, 1) ∧ decode code 337 = .ok (.iaload, 1) ∧ decode code 338 = .ok (.invokevirtual 74, 3) ∧ decode code 341 = .ok (.pop, 1) ∧ decode code 342 = .ok (.aload_n 2, 1) ∧ decode code 343 = .ok (.aload_n 0, 1) := by decide +kernel
theorem dL_331 : decode code 331 = .ok (.iaload, 1) := dM_331.1
theorem dL_332 : decode code 332 = .ok (.aload_n 0, 1) := dM_331.2.1
theorem dL_333 : decode code 333 = .ok (.iload 4, 2) := dM_331.2.2.1
theorem dL_335 : decode code 335 = .ok (.iconst 3, 1) := dM_331.2.2.2.1
theorem dL_336 : decode code 336 = .ok (.iadd, 1) := dM_331.2.2.2.2.1
theorem dL_337 : decode code 337 = .ok (.iaload, 1) := dM_331.2.2.2.2.2.1
theorem dL_338 : decode code 338 = .ok (.invokevirtual 74, 3) := dM_331.2.2.2.2.2.2.1
theorem dL_341 : decode code 341 = .ok (.pop, 1) := dM_331.2.2.2.2.2.2.2.1
theorem dL_342 : decode code 342 = .ok (.aload_n 2, 1) := dM_331.2.2.2.2.2.2.2.2.1
theorem dL_343 : decode code 343 = .ok (.aload_n 0, 1) := dM_331.2.2.2.2.2.2.2.2.2
theorem dM_344 : decode code 344 = .ok (.iload 4, 2) ∧ decode code 346 = .ok (.iconst 1, 1) ∧ decode code 347 = .ok (.iadd, 1) ∧ decode code 348 = .ok (.iaload, 1) ∧ decode code 349 = .ok (.aload_n 0, 1) ∧ decode code 350 = .ok (.iload 4, 2) ∧ decode code 352 = .ok (.iconst 2, 1) ∧ decode code 353 = .ok (.iadd, 1) ∧ decode code 354 = .ok (.iaload, 1) ∧ decode code 355 = .ok (.aload_n 0, 1) := by decide +kernel
theorem dL_344 : decode code 344 = .ok (.iload 4, 2) := dM_344.1
theorem dL_346 : decode code 346 = .ok (.iconst 1, 1) := dM_344.2.1
theorem dL_347 : decode code 347 = .ok (.iadd, 1) := dM_344.2.2.1
theorem dL_348 : decode code 348 = .ok (.iaload, 1) := dM_344.2.2.2.1
theorem dL_349 : decode code 349 = .ok (.aload_n 0, 1) := dM_344.2.2.2.2.1
theorem dL_350 : decode code 350 = .ok (.iload 4, 2) := dM_344.2.2.2.2.2.1
theorem dL_352 : decode code 352 = .ok (.iconst 2, 1) := dM_344.2.2.2.2.2.2.1
theorem dL_353 : decode code 353 = .ok (.iadd, 1) := dM_344.2.2.2.2.2.2.2.1
theorem dL_354 : decode code 354 = .ok (.iaload, 1) := dM_344.2.2.2.2.2.2.2.2.1
theorem dL_355 : decode code 355 = .ok (.aload_n 0, 1) := dM_344.2.2.2.2.2.2.2.2.2
theorem dM_356 : decode code 356 = .ok (.iload 4, 2) ∧ decode code 358 = .ok (.iconst 3, 1) ∧ decode code 359 = .ok (.iadd, 1) ∧ decode code 360 = .ok (.iaload, 1) ∧ decode code 361 = .ok (.invokevirtual 77, 3) ∧ decode code 364 = .ok (.pop, 1) ∧ decode code 365 = .ok (.goto 703, 3) := by decide +kernel
theorem dL_356 : decode code 356 = .ok (.iload 4, 2) := dM_356.1
theorem dL_358 : decode code 358 = .ok (.iconst 3, 1) := dM_356.2.1
theorem dL_359 : decode code 359 = .ok (.iadd, 1) := dM_356.2.2.1
theorem dL_360 : decode code 360 = .ok (.iaload, 1) := dM_356.2.2.2.1
theorem dL_361 : decode code 361 = .ok (.invokevirtual 77, 3) := dM_356.2.2.2.2.1
theorem dL_364 : decode code 364 = .ok (.pop, 1) := dM_356.2.2.2.2.2.1
theorem dL_365 : decode code 365 = .ok (.goto 703, 3) := dM_356.2.2.2.2.2.2
theorem jL_365 : mz_t 365 703 = 1068 ∧ (0 ≤ ((365 : Nat) : Int) + 703) := by decide +kernel
theorem dM_368 : decode code 368 = .ok (.aload_n 1, 1) ∧ decode code 369 = .ok (.aload_n 0, 1) ∧ decode code 370 = .ok (.iload 4, 2) ∧ decode code 372 = .ok (.iconst 1, 1) ∧ decode code 373 = .ok (.iadd, 1) ∧ decode code 374 = .ok (.iaload, 1) ∧ decode code 375 = .ok (.aload_n 0, 1) ∧ decode code 376 = .ok (.iload 4, 2) ∧ decode code 378 = .ok (.iconst 2, 1) ∧ decode code 379 = .ok (.iadd, 1) := by decide +kernel
theorem dL_368 : decode code 368 = .ok (.aload_n 1, 1) := dM_368.1
theorem dL_369 : decode code 369 = .ok (.aload_n 0, 1) := dM_368.2.1
theorem dL_370 : decode code 370 = .ok (.iload 4, 2) := dM_368.2.2.1
theorem dL_372 : decode code 372 = .ok (.iconst 1, 1) := dM_368.2.2.2.1
theorem dL_373 : decode code 373 = .ok (.iadd, 1) := dM_368.2.2.2.2.1
theorem dL_374 : decode code 374 = .ok (.iaload, 1) := dM_368.2.2.2.2.2.1
theorem dL_375 : decode code 375 = .ok (.aload_n 0, 1) := dM_368.2.2.2.2.2.2.1
theorem dL_376 : decode code 376 = .ok (.iload 4, 2) := dM_368.2.2.2.2.2.2.2.1
theorem dL_378 : decode code 378 = .ok (.iconst 2, 1) := dM_368.2.2.2.2.2.2.2.2.1
theorem dL_379 : decode code 379 = .ok (.iadd, 1) := dM_368.2.2.2.2.2.2.2.2.2
theorem dM_380 : decode code 380 = .ok (.iaload, 1) ∧ decode code 381 = .ok (.aload_n 0, 1) ∧ decode code 382 = .ok (.iload 4, 2) ∧ decode code 384 = .ok (.iconst 3, 1) ∧ decode code 385 = .ok (.iadd, 1) ∧ decode code 386 = .ok (.iaload, 1) ∧ decode code 387 = .ok (.ifCond .eq 7, 3) ∧ decode code 390 = .ok (.iconst 1, 1) ∧ decode code 391 = .ok (.goto 4, 3) ∧ decode code 394 = .ok (.iconst 0, 1) := by decide +kernel
theorem dL_380 : decode code 380 = .ok (.iaload, 1) := dM_380.1
theorem dL_381 : decode code 381 = .ok (.aload_n 0, 1) := dM_380.2.1
theorem dL_382 : decode code 382 = .ok (.iload 4, 2) := dM_380.2.2.1
theorem dL_384 : decode code 384 = .ok (.iconst 3, 1) := dM_380.2.2.2.1
theorem dL_385 : decode code 385 = .ok (.iadd, 1) := dM_380.2.2.2.2.1
theorem dL_386 : decode code 386 = .ok (.iaload, 1) := dM_380.2.2.2.2.2.1
theorem dL_387 : decode code 387 = .ok (.ifCond .eq 7, 3) := dM_380.2.2.2.2.2.2.1
theorem jL_387 : mz_t 387 7 = 394 ∧ (0 ≤ ((387 : Nat) : Int) + 7) := by decide +kernel
theorem dL_390 : decode code 390 = .ok (.iconst 1, 1) := dM_380.2.2.2.2.2.2.2.1
theorem dL_391 : decode code 391 = .ok (.goto 4, 3) := dM_380.2.2.2.2.2.2.2.2.1
theorem jL_391 : mz_t 391 4 = 395 ∧ (0 ≤ ((391 : Nat) : Int) + 4) := by decide +kernel
theorem dL_394 : decode code 394 = .ok (.iconst 0, 1) := dM_380.2.2.2.2.2.2.2.2.2
theorem dM_395 : decode code 395 = .ok (.aload_n 3, 1) ∧ decode code 396 = .ok (.invokestatic 78, 3) ∧ decode code 399 = .ok (.istore 5, 2) ∧ decode code 401 = .ok (.aload_n 2, 1) ∧ decode code 402 = .ok (.aload_n 0, 1) ∧ decode code 403 = .ok (.iload 4, 2) ∧ decode code 405 = .ok (.iconst 1, 1) ∧ decode code 406 = .ok (.iadd, 1) ∧ decode code 407 = .ok (.iaload, 1) ∧ decode code 408 = .ok (.aload_n 0, 1) := by decide +kernel
theorem dL_395 : decode code 395 = .ok (.aload_n 3, 1) := dM_395.1
theorem dL_396 : decode code 396 = .ok (.invokestatic 78, 3) := dM_395.2.1
theorem dL_399 : decode code 399 = .ok (.istore 5, 2) := dM_395.2.2.1
theorem dL_401 : decode code 401 = .ok (.aload_n 2, 1) := dM_395.2.2.2.1
theorem dL_402 : decode code 402 = .ok (.aload_n 0, 1) := dM_395.2.2.2.2.1
theorem dL_403 : decode code 403 = .ok (.iload 4, 2) := dM_395.2.2.2.2.2.1
theorem dL_405 : decode code 405 = .ok (.iconst 1, 1) := dM_395.2.2.2.2.2.2.1
theorem dL_406 : decode code 406 = .ok (.iadd, 1) := dM_395.2.2.2.2.2.2.2.1
theorem dL_407 : decode code 407 = .ok (.iaload, 1) := dM_395.2.2.2.2.2.2.2.2.1
theorem dL_408 : decode code 408 = .ok (.aload_n 0, 1) := dM_395.2.2.2.2.2.2.2.2.2
theorem dM_409 : decode code 409 = .ok (.iload 4, 2) ∧ decode code 411 = .ok (.iconst 2, 1) ∧ decode code 412 = .ok (.iadd, 1) ∧ decode code 413 = .ok (.iaload, 1) ∧ decode code 414 = .ok (.aload_n 0, 1) ∧ decode code 415 = .ok (.iload 4, 2) ∧ decode code 417 = .ok (.iconst 3, 1) ∧ decode code 418 = .ok (.iadd, 1) ∧ decode code 419 = .ok (.iaload, 1) ∧ decode code 420 = .ok (.ifCond .eq 7, 3) := by decide +kernel
theorem dL_409 : decode code 409 = .ok (.iload 4, 2) := dM_409.1
theorem dL_411 : decode code 411 = .ok (.iconst 2, 1) := dM_409.2.1
theorem dL_412 : decode code 412 = .ok (.iadd, 1) := dM_409.2.2.1
theorem dL_413 : decode code 413 = .ok (.iaload, 1) := dM_409.2.2.2.1
theorem dL_414 : decode code 414 = .ok (.aload_n 0, 1) := dM_409.2.2.2.2.1
theorem dL_415 : decode code 415 = .ok (.iload 4, 2) := dM_409.2.2.2.2.2.1
theorem dL_417 : decode code 417 = .ok (.iconst 3, 1) := dM_409.2.2.2.2.2.2.1
theorem dL_418 : decode code 418 = .ok (.iadd, 1) := dM_409.2.2.2.2.2.2.2.1
theorem dL_419 : decode code 419 = .ok (.iaload, 1) := dM_409.2.2.2.2.2.2.2.2.1
theorem dL_420 : decode code 420 = .ok (.ifCond .eq 7, 3) := dM_409.2.2.2.2.2.2.2.2.2
theorem jL_420 : mz_t 420 7 = 427 ∧ (0 ≤ ((420 : Nat) : Int) + 7) := by decide +kernel
theorem dM_423 : decode code 423 = .ok (.iconst 1, 1) ∧ decode code 424 = .ok (.goto 4, 3) ∧ decode code 427 = .ok (.iconst 0, 1) ∧ decode code 428 = .ok (.invokevirtual 83, 3) ∧ decode code 431 = .ok (.istore 6, 2) ∧ decode code 433 = .ok (.goto 635, 3) := by decide +kernel
theorem dL_423 : decode code 423 = .ok (.iconst 1, 1) := dM_423.1
theorem dL_424 : decode code 424 = .ok (.goto 4, 3) := dM_423.2.1
theorem jL_424 : mz_t 424 4 = 428 ∧ (0 ≤ ((424 : Nat) : Int) + 4) := by decide +kernel
theorem dL_427 : decode code 427 = .ok (.iconst 0, 1) := dM_423.2.2.1
theorem dL_428 : decode code 428 = .ok (.invokevirtual 83, 3) := dM_423.2.2.2.1
theorem dL_431 : decode code 431 = .ok (.istore 6, 2) := dM_423.2.2.2.2.1
theorem dL_433 : decode code 433 = .ok (.goto 635, 3) := dM_423.2.2.2.2.2
theorem jL_433 : mz_t 433 635 = 1068 ∧ (0 ≤ ((433 : Nat) : Int) + 635) := by decide +kernel
theorem dM_436 : decode code 436 = .ok (.aload_n 1, 1) ∧ decode code 437 = .ok (.aload_n 0, 1) ∧ decode code 438 = .ok (.iload 4, 2) ∧ decode code 440 = .ok (.iconst 1, 1) ∧ decode code 441 = .ok (.iadd, 1) ∧ decode code 442 = .ok (.iaload, 1) ∧ decode code 443 = .ok (.aload_n 0, 1) ∧ decode code 444 = .ok (.iload 4, 2) ∧ decode code 446 = .ok (.iconst 2, 1) ∧ decode code 447 = .ok (.iadd, 1) := by decide +kernel
theorem dL_436 : decode code 436 = .ok (.aload_n 1, 1) := dM_436.1
theorem dL_437 : decode code 437 = .ok (.aload_n 0, 1) := dM_436.2.1
theorem dL_438 : decode code 438 = .ok (.iload 4, 2) := dM_436.2.2.1
theorem dL_440 : decode code 440 = .ok (.iconst 1, 1) := dM_436.2.2.2.1
theorem dL_441 : decode code 441 = .ok (.iadd, 1) := dM_436.2.2.2.2.1
theorem dL_442 : decode code 442 = .ok (.iaload, 1) := dM_436.2.2.2.2.2.1
theorem dL_443 : decode code 443 = .ok (.aload_n 0, 1) := dM_436.2.2.2.2.2.2.1
theorem dL_444 : decode code 444 = .ok (.iload 4, 2) := dM_436.2.2.2.2.2.2.2.1
theorem dL_446 : decode code 446 = .ok (.iconst 2, 1) := dM_436.2.2.2.2.2.2.2.2.1
theorem dL_447 : decode code 447 = .ok (.iadd, 1) := dM_436.2.2.2.2.2.2.2.2.2
theorem dM_448 : decode code 448 = .ok (.iaload, 1) ∧ decode code 449 = .ok (.aload_n 0, 1) ∧ decode code 450 = .ok (.iload 4, 2) ∧ decode code 452 = .ok (.iconst 3, 1) ∧ decode code 453 = .ok (.iadd, 1) ∧ decode code 454 = .ok (.iaload, 1) ∧ decode code 455 = .ok (.aload_n 3, 1) ∧ decode code 456 = .ok (.invokestatic 84, 3) ∧ decode code 459 = .ok (.istore 5, 2) ∧ decode code 461 = .ok (.aload_n 2, 1) := by decide +kernel
theorem dL_448 : decode code 448 = .ok (.iaload, 1) := dM_448.1
theorem dL_449 : decode code 449 = .ok (.aload_n 0, 1) := dM_448.2.1
theorem dL_450 : decode code 450 = .ok (.iload 4, 2) := dM_448.2.2.1
theorem dL_452 : decode code 452 = .ok (.iconst 3, 1) := dM_448.2.2.2.1
theorem dL_453 : decode code 453 = .ok (.iadd, 1) := dM_448.2.2.2.2.1
theorem dL_454 : decode code 454 = .ok (.iaload, 1) := dM_448.2.2.2.2.2.1
theorem dL_455 : decode code 455 = .ok (.aload_n 3, 1) := dM_448.2.2.2.2.2.2.1
theorem dL_456 : decode code 456 = .ok (.invokestatic 84, 3) := dM_448.2.2.2.2.2.2.2.1
theorem dL_459 : decode code 459 = .ok (.istore 5, 2) := dM_448.2.2.2.2.2.2.2.2.1
theorem dL_461 : decode code 461 = .ok (.aload_n 2, 1) := dM_448.2.2.2.2.2.2.2.2.2
theorem dM_462 : decode code 462 = .ok (.aload_n 0, 1) ∧ decode code 463 = .ok (.iload 4, 2) ∧ decode code 465 = .ok (.iconst 1, 1) ∧ decode code 466 = .ok (.iadd, 1) ∧ decode code 467 = .ok (.iaload, 1) ∧ decode code 468 = .ok (.aload_n 0, 1) ∧ decode code 469 = .ok (.iload 4, 2) ∧ decode code 471 = .ok (.iconst 2, 1) ∧ decode code 472 = .ok (.iadd, 1) ∧ decode code 473 = .ok (.iaload, 1) := by decide +kernel
theorem dL_462 : decode code 462 = .ok (.aload_n 0, 1) := dM_462.1
theorem dL_463 : decode code 463 = .ok (.iload 4, 2) := dM_462.2.1
theorem dL_465 : decode code 465 = .ok (.iconst 1, 1) := dM_462.2.2.1
theorem dL_466 : decode code 466 = .ok (.iadd, 1) := dM_462.2.2.2.1
theorem dL_467 : decode code 467 = .ok (.iaload, 1) := dM_462.2.2.2.2.1
theorem dL_468 : decode code 468 = .ok (.aload_n 0, 1) := dM_462.2.2.2.2.2.1
theorem dL_469 : decode code 469 = .ok (.iload 4, 2) := dM_462.2.2.2.2.2.2.1
theorem dL_471 : decode code 471 = .ok (.iconst 2, 1) := dM_462.2.2.2.2.2.2.2.1
theorem dL_472 : decode code 472 = .ok (.iadd, 1) := dM_462.2.2.2.2.2.2.2.2.1
theorem dL_473 : decode code 473 = .ok (.iaload, 1) := dM_462.2.2.2.2.2.2.2.2.2
theorem dM_474 : decode code 474 = .ok (.aload_n 0, 1) ∧ decode code 475 = .ok (.iload 4, 2) ∧ decode code 477 = .ok (.iconst 3, 1) ∧ decode code 478 = .ok (.iadd, 1) ∧ decode code 479 = .ok (.iaload, 1) ∧ decode code 480 = .ok (.invokevirtual 87, 3) ∧ decode code 483 = .ok (.istore 6, 2) ∧ decode code 485 = .ok (.goto 583, 3) := by decide +kernel
theorem dL_474 : decode code 474 = .ok (.aload_n 0, 1) := dM_474.1
theorem dL_475 : decode code 475 = .ok (.iload 4, 2) := dM_474.2.1
theorem dL_477 : decode code 477 = .ok (.iconst 3, 1) := dM_474.2.2.1
theorem dL_478 : decode code 478 = .ok (.iadd, 1) := dM_474.2.2.2.1
theorem dL_479 : decode code 479 = .ok (.iaload, 1) := dM_474.2.2.2.2.1
theorem dL_480 : decode code 480 = .ok (.invokevirtual 87, 3) := dM_474.2.2.2.2.2.1
theorem dL_483 : decode code 483 = .ok (.istore 6, 2) := dM_474.2.2.2.2.2.2.1
theorem dL_485 : decode code 485 = .ok (.goto 583, 3) := dM_474.2.2.2.2.2.2.2
theorem jL_485 : mz_t 485 583 = 1068 ∧ (0 ≤ ((485 : Nat) : Int) + 583) := by decide +kernel
theorem dM_488 : decode code 488 = .ok (.aload_n 1, 1) ∧ decode code 489 = .ok (.aload_n 0, 1) ∧ decode code 490 = .ok (.iload 4, 2) ∧ decode code 492 = .ok (.iconst 1, 1) ∧ decode code 493 = .ok (.iadd, 1) ∧ decode code 494 = .ok (.iaload, 1) ∧ decode code 495 = .ok (.aload_n 0, 1) ∧ decode code 496 = .ok (.iload 4, 2) ∧ decode code 498 = .ok (.iconst 2, 1) ∧ decode code 499 = .ok (.iadd, 1) := by decide +kernel
theorem dL_488 : decode code 488 = .ok (.aload_n 1, 1) := dM_488.1
theorem dL_489 : decode code 489 = .ok (.aload_n 0, 1) := dM_488.2.1
theorem dL_490 : decode code 490 = .ok (.iload 4, 2) := dM_488.2.2.1
theorem dL_492 : decode code 492 = .ok (.iconst 1, 1) := dM_488.2.2.2.1
theorem dL_493 : decode code 493 = .ok (.iadd, 1) := dM_488.2.2.2.2.1
theorem dL_494 : decode code 494 = .ok (.iaload, 1) := dM_488.2.2.2.2.2.1
theorem dL_495 : decode code 495 = .ok (.aload_n 0, 1) := dM_488.2.2.2.2.2.2.1
theorem dL_496 : decode code 496 = .ok (.iload 4, 2) := dM_488.2.2.2.2.2.2.2.1
theorem dL_498 : decode code 498 = .ok (.iconst 2, 1) := dM_488.2.2.2.2.2.2.2.2.1
theorem dL_499 : decode code 499 = .ok (.iadd, 1) := dM_488.2.2.2.2.2.2.2.2.2
theorem dM_500 : decode code 500 = .ok (.iaload, 1) ∧ decode code 501 = .ok (.aload_n 0, 1) ∧ decode code 502 = .ok (.iload 4, 2) ∧ decode code 504 = .ok (.iconst 3, 1) ∧ decode code 505 = .ok (.iadd, 1) ∧ decode code 506 = .ok (.iaload, 1) ∧ decode code 507 = .ok (.aload_n 0, 1) ∧ decode code 508 = .ok (.iload 4, 2) ∧ decode code 510 = .ok (.iconst 4, 1) ∧ decode code 511 = .ok (.iadd, 1) := by decide +kernel
theorem dL_500 : decode code 500 = .ok (.iaload, 1) := dM_500.1
theorem dL_501 : decode code 501 = .ok (.aload_n 0, 1) := dM_500.2.1
theorem dL_502 : decode code 502 = .ok (.iload 4, 2) := dM_500.2.2.1
theorem dL_504 : decode code 504 = .ok (.iconst 3, 1) := dM_500.2.2.2.1
theorem dL_505 : decode code 505 = .ok (.iadd, 1) := dM_500.2.2.2.2.1
theorem dL_506 : decode code 506 = .ok (.iaload, 1) := dM_500.2.2.2.2.2.1
theorem dL_507 : decode code 507 = .ok (.aload_n 0, 1) := dM_500.2.2.2.2.2.2.1
theorem dL_508 : decode code 508 = .ok (.iload 4, 2) := dM_500.2.2.2.2.2.2.2.1
theorem dL_510 : decode code 510 = .ok (.iconst 4, 1) := dM_500.2.2.2.2.2.2.2.2.1
theorem dL_511 : decode code 511 = .ok (.iadd, 1) := dM_500.2.2.2.2.2.2.2.2.2
theorem dM_512 : decode code 512 = .ok (.iaload, 1) ∧ decode code 513 = .ok (.aload_n 3, 1) ∧ decode code 514 = .ok (.invokestatic 88, 3) ∧ decode code 517 = .ok (.istore 5, 2) ∧ decode code 519 = .ok (.aload_n 2, 1) ∧ decode code 520 = .ok (.aload_n 0, 1) ∧ decode code 521 = .ok (.iload 4, 2) ∧ decode code 523 = .ok (.iconst 1, 1) ∧ decode code 524 = .ok (.iadd, 1) ∧ decode code 525 = .ok (.iaload, 1) := by decide +kernel
theorem dL_512 : decode code 512 = .ok (.iaload, 1) := dM_512.1
theorem dL_513 : decode code 513 = .ok (.aload_n 3, 1) := dM_512.2.1
theorem dL_514 : decode code 514 = .ok (.invokestatic 88, 3) := dM_512.2.2.1
theorem dL_517 : decode code 517 = .ok (.istore 5, 2) := dM_512.2.2.2.1
theorem dL_519 : decode code 519 = .ok (.aload_n 2, 1) := dM_512.2.2.2.2.1
theorem dL_520 : decode code 520 = .ok (.aload_n 0, 1) := dM_512.2.2.2.2.2.1
theorem dL_521 : decode code 521 = .ok (.iload 4, 2) := dM_512.2.2.2.2.2.2.1
theorem dL_523 : decode code 523 = .ok (.iconst 1, 1) := dM_512.2.2.2.2.2.2.2.1
theorem dL_524 : decode code 524 = .ok (.iadd, 1) := dM_512.2.2.2.2.2.2.2.2.1
theorem dL_525 : decode code 525 = .ok (.iaload, 1) := dM_512.2.2.2.2.2.2.2.2.2
theorem dM_526 : decode code 526 = .ok (.aload_n 0, 1) ∧ decode code 527 = .ok (.iload 4, 2) ∧ decode code 529 = .ok (.iconst 2, 1) ∧ decode code 530 = .ok (.iadd, 1) ∧ decode code 531 = .ok (.iaload, 1) ∧ decode code 532 = .ok (.aload_n 0, 1) ∧ decode code 533 = .ok (.iload 4, 2) ∧ decode code 535 = .ok (.iconst 3, 1) ∧ decode code 536 = .ok (.iadd, 1) ∧ decode code 537 = .ok (.iaload, 1) := by decide +kernel
theorem dL_526 : decode code 526 = .ok (.aload_n 0, 1) := dM_526.1
theorem dL_527 : decode code 527 = .ok (.iload 4, 2) := dM_526.2.1
theorem dL_529 : decode code 529 = .ok (.iconst 2, 1) := dM_526.2.2.1
theorem dL_530 : decode code 530 = .ok (.iadd, 1) := dM_526.2.2.2.1
theorem dL_531 : decode code 531 = .ok (.iaload, 1) := dM_526.2.2.2.2.1
theorem dL_532 : decode code 532 = .ok (.aload_n 0, 1) := dM_526.2.2.2.2.2.1
theorem dL_533 : decode code 533 = .ok (.iload 4, 2) := dM_526.2.2.2.2.2.2.1
theorem dL_535 : decode code 535 = .ok (.iconst 3, 1) := dM_526.2.2.2.2.2.2.2.1
theorem dL_536 : decode code 536 = .ok (.iadd, 1) := dM_526.2.2.2.2.2.2.2.2.1
theorem dL_537 : decode code 537 = .ok (.iaload, 1) := dM_526.2.2.2.2.2.2.2.2.2
theorem dM_538 : decode code 538 = .ok (.aload_n 0, 1) ∧ decode code 539 = .ok (.iload 4, 2) ∧ decode code 541 = .ok (.iconst 4, 1) ∧ decode code 542 = .ok (.iadd, 1) ∧ decode code 543 = .ok (.iaload, 1) ∧ decode code 544 = .ok (.invokevirtual 91, 3) ∧ decode code 547 = .ok (.istore 6, 2) ∧ decode code 549 = .ok (.goto 519, 3) := by decide +kernel
theorem dL_538 : decode code 538 = .ok (.aload_n 0, 1) := dM_538.1
theorem dL_539 : decode code 539 = .ok (.iload 4, 2) := dM_538.2.1
theorem dL_541 : decode code 541 = .ok (.iconst 4, 1) := dM_538.2.2.1
theorem dL_542 : decode code 542 = .ok (.iadd, 1) := dM_538.2.2.2.1
theorem dL_543 : decode code 543 = .ok (.iaload, 1) := dM_538.2.2.2.2.1
theorem dL_544 : decode code 544 = .ok (.invokevirtual 91, 3) := dM_538.2.2.2.2.2.1
theorem dL_547 : decode code 547 = .ok (.istore 6, 2) := dM_538.2.2.2.2.2.2.1
theorem dL_549 : decode code 549 = .ok (.goto 519, 3) := dM_538.2.2.2.2.2.2.2
theorem jL_549 : mz_t 549 519 = 1068 ∧ (0 ≤ ((549 : Nat) : Int) + 519) := by decide +kernel
theorem dM_552 : decode code 552 = .ok (.aload_n 1, 1) ∧ decode code 553 = .ok (.aload_n 0, 1) ∧ decode code 554 = .ok (.iload 4, 2) ∧ decode code 556 = .ok (.iconst 1, 1) ∧ decode code 557 = .ok (.iadd, 1) ∧ decode code 558 = .ok (.iaload, 1) ∧ decode code 559 = .ok (.aload_n 0, 1) ∧ decode code 560 = .ok (.iload 4, 2) ∧ decode code 562 = .ok (.iconst 2, 1) ∧ decode code 563 = .ok (.iadd, 1) := by decide +kernel
theorem dL_552 : decode code 552 = .ok (.aload_n 1, 1) := dM_552.1
theorem dL_553 : decode code 553 = .ok (.aload_n 0, 1) := dM_552.2.1
theorem dL_554 : decode code 554 = .ok (.iload 4, 2) := dM_552.2.2.1
theorem dL_556 : decode code 556 = .ok (.iconst 1, 1) := dM_552.2.2.2.1
theorem dL_557 : decode code 557 = .ok (.iadd, 1) := dM_552.2.2.2.2.1
theorem dL_558 : decode code 558 = .ok (.iaload, 1) := dM_552.2.2.2.2.2.1
theorem dL_559 : decode code 559 = .ok (.aload_n 0, 1) := dM_552.2.2.2.2.2.2.1
theorem dL_560 : decode code 560 = .ok (.iload 4, 2) := dM_552.2.2.2.2.2.2.2.1
theorem dL_562 : decode code 562 = .ok (.iconst 2, 1) := dM_552.2.2.2.2.2.2.2.2.1
theorem dL_563 : decode code 563 = .ok (.iadd, 1) := dM_552.2.2.2.2.2.2.2.2.2
theorem dM_564 : decode code 564 = .ok (.iaload, 1) ∧ decode code 565 = .ok (.aload_n 0, 1) ∧ decode code 566 = .ok (.iload 4, 2) ∧ decode code 568 = .ok (.iconst 3, 1) ∧ decode code 569 = .ok (.iadd, 1) ∧ decode code 570 = .ok (.iaload, 1) ∧ decode code 571 = .ok (.aload_n 0, 1) ∧ decode code 572 = .ok (.iload 4, 2) ∧ decode code 574 = .ok (.iconst 4, 1) ∧ decode code 575 = .ok (.iadd, 1) := by decide +kernel
theorem dL_564 : decode code 564 = .ok (.iaload, 1) := dM_564.1
theorem dL_565 : decode code 565 = .ok (.aload_n 0, 1) := dM_564.2.1
theorem dL_566 : decode code 566 = .ok (.iload 4, 2) := dM_564.2.2.1
theorem dL_568 : decode code 568 = .ok (.iconst 3, 1) := dM_564.2.2.2.1
theorem dL_569 : decode code 569 = .ok (.iadd, 1) := dM_564.2.2.2.2.1
theorem dL_570 : decode code 570 = .ok (.iaload, 1) := dM_564.2.2.2.2.2.1
theorem dL_571 : decode code 571 = .ok (.aload_n 0, 1) := dM_564.2.2.2.2.2.2.1
theorem dL_572 : decode code 572 = .ok (.iload 4, 2) := dM_564.2.2.2.2.2.2.2.1
theorem dL_574 : decode code 574 = .ok (.iconst 4, 1) := dM_564.2.2.2.2.2.2.2.2.1
theorem dL_575 : decode code 575 = .ok (.iadd, 1) := dM_564.2.2.2.2.2.2.2.2.2
theorem dM_576 : decode code 576 = .ok (.iaload, 1) ∧ decode code 577 = .ok (.aload_n 0, 1) ∧ decode code 578 = .ok (.iload 4, 2) ∧ decode code 580 = .ok (.iconst 5, 1) ∧ decode code 581 = .ok (.iadd, 1) ∧ decode code 582 = .ok (.iaload, 1) ∧ decode code 583 = .ok (.aload_n 3, 1) ∧ decode code 584 = .ok (.invokestatic 92, 3) ∧ decode code 587 = .ok (.istore 5, 2) ∧ decode code 589 = .ok (.aload_n 2, 1) := by decide +kernel
theorem dL_576 : decode code 576 = .ok (.iaload, 1) := dM_576.1
theorem dL_577 : decode code 577 = .ok (.aload_n 0, 1) := dM_576.2.1
theorem dL_578 : decode code 578 = .ok (.iload 4, 2) := dM_576.2.2.1
theorem dL_580 : decode code 580 = .ok (.iconst 5, 1) := dM_576.2.2.2.1
theorem dL_581 : decode code 581 = .ok (.iadd, 1) := dM_576.2.2.2.2.1
theorem dL_582 : decode code 582 = .ok (.iaload, 1) := dM_576.2.2.2.2.2.1
theorem dL_583 : decode code 583 = .ok (.aload_n 3, 1) := dM_576.2.2.2.2.2.2.1
theorem dL_584 : decode code 584 = .ok (.invokestatic 92, 3) := dM_576.2.2.2.2.2.2.2.1
theorem dL_587 : decode code 587 = .ok (.istore 5, 2) := dM_576.2.2.2.2.2.2.2.2.1
theorem dL_589 : decode code 589 = .ok (.aload_n 2, 1) := dM_576.2.2.2.2.2.2.2.2.2
theorem dM_590 : decode code 590 = .ok (.aload_n 0, 1) ∧ decode code 591 = .ok (.iload 4, 2) ∧ decode code 593 = .ok (.iconst 1, 1) ∧ decode code 594 = .ok (.iadd, 1) ∧ decode code 595 = .ok (.iaload, 1) ∧ decode code 596 = .ok (.aload_n 0, 1) ∧ decode code 597 = .ok (.iload 4, 2) ∧ decode code 599 = .ok (.iconst 2, 1) ∧ decode code 600 = .ok (.iadd, 1) ∧ decode code 601 = .ok (.iaload, 1) := by decide +kernel
theorem dL_590 : decode code 590 = .ok (.aload_n 0, 1) := dM_590.1
theorem dL_591 : decode code 591 = .ok (.iload 4, 2) := dM_590.2.1
theorem dL_593 : decode code 593 = .ok (.iconst 1, 1) := dM_590.2.2.1
theorem dL_594 : decode code 594 = .ok (.iadd, 1) := dM_590.2.2.2.1
theorem dL_595 : decode code 595 = .ok (.iaload, 1) := dM_590.2.2.2.2.1
theorem dL_596 : decode code 596 = .ok (.aload_n 0, 1) := dM_590.2.2.2.2.2.1
theorem dL_597 : decode code 597 = .ok (.iload 4, 2) := dM_590.2.2.2.2.2.2.1
theorem dL_599 : decode code 599 = .ok (.iconst 2, 1) := dM_590.2.2.2.2.2.2.2.1
theorem dL_600 : decode code 600 = .ok (.iadd, 1) := dM_590.2.2.2.2.2.2.2.2.1
theorem dL_601 : decode code 601 = .ok (.iaload, 1) := dM_590.2.2.2.2.2.2.2.2.2
theorem dM_602 : decode code 602 = .ok (.aload_n 0, 1) ∧ decode code 603 = .ok (.iload 4, 2) ∧ decode code 605 = .ok (.iconst 3, 1) ∧ decode code 606 = .ok (.iadd, 1) ∧ decode code 607 = .ok (.iaload, 1) ∧ decode code 608 = .ok (.aload_n 0, 1) ∧ decode code 609 = .ok (.iload 4, 2) ∧ decode code 611 = .ok (.iconst 4, 1) ∧ decode code 612 = .ok (.iadd, 1) ∧ decode code 613 = .ok (.iaload, 1) := by decide +kernel
theorem dL_602 : decode code 602 = .ok (.aload_n 0, 1) := dM_602.1
theorem dL_603 : decode code 603 = .ok (.iload 4, 2) := dM_602.2.1
theorem dL_605 : decode code 605 = .ok (.iconst 3, 1) := dM_602.2.2.1
theorem dL_606 : decode code 606 = .ok (.iadd, 1) := dM_602.2.2.2.1
theorem dL_607 : decode code 607 = .ok (.iaload, 1) := dM_602.2.2.2.2.1
theorem dL_608 : decode code 608 = .ok (.aload_n 0, 1) := dM_602.2.2.2.2.2.1
theorem dL_609 : decode code 609 = .ok (.iload 4, 2) := dM_602.2.2.2.2.2.2.1
theorem dL_611 : decode code 611 = .ok (.iconst 4, 1) := dM_602.2.2.2.2.2.2.2.1
theorem dL_612 : decode code 612 = .ok (.iadd, 1) := dM_602.2.2.2.2.2.2.2.2.1
theorem dL_613 : decode code 613 = .ok (.iaload, 1) := dM_602.2.2.2.2.2.2.2.2.2
theorem dM_614 : decode code 614 = .ok (.aload_n 0, 1) ∧ decode code 615 = .ok (.iload 4, 2) ∧ decode code 617 = .ok (.iconst 5, 1) ∧ decode code 618 = .ok (.iadd, 1) ∧ decode code 619 = .ok (.iaload, 1) ∧ decode code 620 = .ok (.invokevirtual 95, 3) ∧ decode code 623 = .ok (.istore 6, 2) ∧ decode code 625 = .ok (.goto 443, 3) := by decide +kernel
theorem dL_614 : decode code 614 = .ok (.aload_n 0, 1) := dM_614.1
theorem dL_615 : decode code 615 = .ok (.iload 4, 2) := dM_614.2.1
theorem dL_617 : decode code 617 = .ok (.iconst 5, 1) := dM_614.2.2.1
theorem dL_618 : decode code 618 = .ok (.iadd, 1) := dM_614.2.2.2.1
theorem dL_619 : decode code 619 = .ok (.iaload, 1) := dM_614.2.2.2.2.1
theorem dL_620 : decode code 620 = .ok (.invokevirtual 95, 3) := dM_614.2.2.2.2.2.1
theorem dL_623 : decode code 623 = .ok (.istore 6, 2) := dM_614.2.2.2.2.2.2.1
theorem dL_625 : decode code 625 = .ok (.goto 443, 3) := dM_614.2.2.2.2.2.2.2
theorem jL_625 : mz_t 625 443 = 1068 ∧ (0 ≤ ((625 : Nat) : Int) + 443) := by decide +kernel
theorem dM_628 : decode code 628 = .ok (.aload_n 1, 1) ∧ decode code 629 = .ok (.aload_n 0, 1) ∧ decode code 630 = .ok (.iload 4, 2) ∧ decode code 632 = .ok (.iconst 1, 1) ∧ decode code 633 = .ok (.iadd, 1) ∧ decode code 634 = .ok (.iaload, 1) ∧ decode code 635 = .ok (.aload_n 0, 1) ∧ decode code 636 = .ok (.iload 4, 2) ∧ decode code 638 = .ok (.iconst 2, 1) ∧ decode code 639 = .ok (.iadd, 1) := by decide +kernel
theorem dL_628 : decode code 628 = .ok (.aload_n 1, 1) := dM_628.1
theorem dL_629 : decode code 629 = .ok (.aload_n 0, 1) := dM_628.2.1
theorem dL_630 : decode code 630 = .ok (.iload 4, 2) := dM_628.2.2.1
theorem dL_632 : decode code 632 = .ok (.iconst 1, 1) := dM_628.2.2.2.1
theorem dL_633 : decode code 633 = .ok (.iadd, 1) := dM_628.2.2.2.2.1
theorem dL_634 : decode code 634 = .ok (.iaload, 1) := dM_628.2.2.2.2.2.1
theorem dL_635 : decode code 635 = .ok (.aload_n 0, 1) := dM_628.2.2.2.2.2.2.1
theorem dL_636 : decode code 636 = .ok (.iload 4, 2) := dM_628.2.2.2.2.2.2.2.1
theorem dL_638 : decode code 638 = .ok (.iconst 2, 1) := dM_628.2.2.2.2.2.2.2.2.1
theorem dL_639 : decode code 639 = .ok (.iadd, 1) := dM_628.2.2.2.2.2.2.2.2.2
theorem dM_640 : decode code 640 = .ok (.iaload, 1) ∧ decode code 641 = .ok (.aload_n 0, 1) ∧ decode code 642 = .ok (.iload 4, 2) ∧ decode code 644 = .ok (.iconst 3, 1) ∧ decode code 645 = .ok (.iadd, 1) ∧ decode code 646 = .ok (.iaload, 1) ∧ decode code 647 = .ok (.aload_n 3, 1) ∧ decode code 648 = .ok (.invokestatic 96, 3) ∧ decode code 651 = .ok (.istore 5, 2) ∧ decode code 653 = .ok (.aload_n 2, 1) := by decide +kernel
theorem dL_640 : decode code 640 = .ok (.iaload, 1) := dM_640.1
theorem dL_641 : decode code 641 = .ok (.aload_n 0, 1) := dM_640.2.1
theorem dL_642 : decode code 642 = .ok (.iload 4, 2) := dM_640.2.2.1
theorem dL_644 : decode code 644 = .ok (.iconst 3, 1) := dM_640.2.2.2.1
theorem dL_645 : decode code 645 = .ok (.iadd, 1) := dM_640.2.2.2.2.1
theorem dL_646 : decode code 646 = .ok (.iaload, 1) := dM_640.2.2.2.2.2.1
theorem dL_647 : decode code 647 = .ok (.aload_n 3, 1) := dM_640.2.2.2.2.2.2.1
theorem dL_648 : decode code 648 = .ok (.invokestatic 96, 3) := dM_640.2.2.2.2.2.2.2.1
theorem dL_651 : decode code 651 = .ok (.istore 5, 2) := dM_640.2.2.2.2.2.2.2.2.1
theorem dL_653 : decode code 653 = .ok (.aload_n 2, 1) := dM_640.2.2.2.2.2.2.2.2.2
theorem dM_654 : decode code 654 = .ok (.aload_n 0, 1) ∧ decode code 655 = .ok (.iload 4, 2) ∧ decode code 657 = .ok (.iconst 1, 1) ∧ decode code 658 = .ok (.iadd, 1) ∧ decode code 659 = .ok (.iaload, 1) ∧ decode code 660 = .ok (.aload_n 0, 1) ∧ decode code 661 = .ok (.iload 4, 2) ∧ decode code 663 = .ok (.iconst 2, 1) ∧ decode code 664 = .ok (.iadd, 1) ∧ decode code 665 = .ok (.iaload, 1) := by decide +kernel
theorem dL_654 : decode code 654 = .ok (.aload_n 0, 1) := dM_654.1
theorem dL_655 : decode code 655 = .ok (.iload 4, 2) := dM_654.2.1
theorem dL_657 : decode code 657 = .ok (.iconst 1, 1) := dM_654.2.2.1
theorem dL_658 : decode code 658 = .ok (.iadd, 1) := dM_654.2.2.2.1
theorem dL_659 : decode code 659 = .ok (.iaload, 1) := dM_654.2.2.2.2.1
theorem dL_660 : decode code 660 = .ok (.aload_n 0, 1) := dM_654.2.2.2.2.2.1
theorem dL_661 : decode code 661 = .ok (.iload 4, 2) := dM_654.2.2.2.2.2.2.1
theorem dL_663 : decode code 663 = .ok (.iconst 2, 1) := dM_654.2.2.2.2.2.2.2.1
theorem dL_664 : decode code 664 = .ok (.iadd, 1) := dM_654.2.2.2.2.2.2.2.2.1
theorem dL_665 : decode code 665 = .ok (.iaload, 1) := dM_654.2.2.2.2.2.2.2.2.2
theorem dM_666 : decode code 666 = .ok (.aload_n 0, 1) ∧ decode code 667 = .ok (.iload 4, 2) ∧ decode code 669 = .ok (.iconst 3, 1) ∧ decode code 670 = .ok (.iadd, 1) ∧ decode code 671 = .ok (.iaload, 1) ∧ decode code 672 = .ok (.invokevirtual 98, 3) ∧ decode code 675 = .ok (.istore 6, 2) ∧ decode code 677 = .ok (.goto 391, 3) := by decide +kernel
theorem dL_666 : decode code 666 = .ok (.aload_n 0, 1) := dM_666.1
theorem dL_667 : decode code 667 = .ok (.iload 4, 2) := dM_666.2.1
theorem dL_669 : decode code 669 = .ok (.iconst 3, 1) := dM_666.2.2.1
theorem dL_670 : decode code 670 = .ok (.iadd, 1) := dM_666.2.2.2.1
theorem dL_671 : decode code 671 = .ok (.iaload, 1) := dM_666.2.2.2.2.1
theorem dL_672 : decode code 672 = .ok (.invokevirtual 98, 3) := dM_666.2.2.2.2.2.1
theorem dL_675 : decode code 675 = .ok (.istore 6, 2) := dM_666.2.2.2.2.2.2.1
theorem dL_677 : decode code 677 = .ok (.goto 391, 3) := dM_666.2.2.2.2.2.2.2
theorem jL_677 : mz_t 677 391 = 1068 ∧ (0 ≤ ((677 : Nat) : Int) + 391) := by decide +kernel
theorem dM_680 : decode code 680 = .ok (.aload_n 1, 1) ∧ decode code 681 = .ok (.aload_n 0, 1) ∧ decode code 682 = .ok (.iload 4, 2) ∧ decode code 684 = .ok (.iconst 1, 1) ∧ decode code 685 = .ok (.iadd, 1) ∧ decode code 686 = .ok (.iaload, 1) ∧ decode code 687 = .ok (.aload_n 0, 1) ∧ decode code 688 = .ok (.iload 4, 2) ∧ decode code 690 = .ok (.iconst 2, 1) ∧ decode code 691 = .ok (.iadd, 1) := by decide +kernel
theorem dL_680 : decode code 680 = .ok (.aload_n 1, 1) := dM_680.1
theorem dL_681 : decode code 681 = .ok (.aload_n 0, 1) := dM_680.2.1
theorem dL_682 : decode code 682 = .ok (.iload 4, 2) := dM_680.2.2.1
theorem dL_684 : decode code 684 = .ok (.iconst 1, 1) := dM_680.2.2.2.1
theorem dL_685 : decode code 685 = .ok (.iadd, 1) := dM_680.2.2.2.2.1
theorem dL_686 : decode code 686 = .ok (.iaload, 1) := dM_680.2.2.2.2.2.1
theorem dL_687 : decode code 687 = .ok (.aload_n 0, 1) := dM_680.2.2.2.2.2.2.1
theorem dL_688 : decode code 688 = .ok (.iload 4, 2) := dM_680.2.2.2.2.2.2.2.1
theorem dL_690 : decode code 690 = .ok (.iconst 2, 1) := dM_680.2.2.2.2.2.2.2.2.1
theorem dL_691 : decode code 691 = .ok (.iadd, 1) := dM_680.2.2.2.2.2.2.2.2.2
theorem dM_692 : decode code 692 = .ok (.iaload, 1) ∧ decode code 693 = .ok (.aload_n 0, 1) ∧ decode code 694 = .ok (.iload 4, 2) ∧ decode code 696 = .ok (.iconst 3, 1) ∧ decode code 697 = .ok (.iadd, 1) ∧ decode code 698 = .ok (.iaload, 1) ∧ decode code 699 = .ok (.aload_n 3, 1) ∧ decode code 700 = .ok (.invokestatic 99, 3) ∧ decode code 703 = .ok (.istore 5, 2) ∧ decode code 705 = .ok (.aload_n 2, 1) := by decide +kernel
theorem dL_692 : decode code 692 = .ok (.iaload, 1) := dM_692.1
theorem dL_693 : decode code 693 = .ok (.aload_n 0, 1) := dM_692.2.1
theorem dL_694 : decode code 694 = .ok (.iload 4, 2) := dM_692.2.2.1
theorem dL_696 : decode code 696 = .ok (.iconst 3, 1) := dM_692.2.2.2.1
theorem dL_697 : decode code 697 = .ok (.iadd, 1) := dM_692.2.2.2.2.1
theorem dL_698 : decode code 698 = .ok (.iaload, 1) := dM_692.2.2.2.2.2.1
theorem dL_699 : decode code 699 = .ok (.aload_n 3, 1) := dM_692.2.2.2.2.2.2.1
theorem dL_700 : decode code 700 = .ok (.invokestatic 99, 3) := dM_692.2.2.2.2.2.2.2.1
theorem dL_703 : decode code 703 = .ok (.istore 5, 2) := dM_692.2.2.2.2.2.2.2.2.1
theorem dL_705 : decode code 705 = .ok (.aload_n 2, 1) := dM_692.2.2.2.2.2.2.2.2.2
theorem dM_706 : decode code 706 = .ok (.aload_n 0, 1) ∧ decode code 707 = .ok (.iload 4, 2) ∧ decode code 709 = .ok (.iconst 1, 1) ∧ decode code 710 = .ok (.iadd, 1) ∧ decode code 711 = .ok (.iaload, 1) ∧ decode code 712 = .ok (.aload_n 0, 1) ∧ decode code 713 = .ok (.iload 4, 2) ∧ decode code 715 = .ok (.iconst 2, 1) ∧ decode code 716 = .ok (.iadd, 1) ∧ decode code 717 = .ok (.iaload, 1) := by decide +kernel
theorem dL_706 : decode code 706 = .ok (.aload_n 0, 1) := dM_706.1
theorem dL_707 : decode code 707 = .ok (.iload 4, 2) := dM_706.2.1
theorem dL_709 : decode code 709 = .ok (.iconst 1, 1) := dM_706.2.2.1
theorem dL_710 : decode code 710 = .ok (.iadd, 1) := dM_706.2.2.2.1
theorem dL_711 : decode code 711 = .ok (.iaload, 1) := dM_706.2.2.2.2.1
theorem dL_712 : decode code 712 = .ok (.aload_n 0, 1) := dM_706.2.2.2.2.2.1
theorem dL_713 : decode code 713 = .ok (.iload 4, 2) := dM_706.2.2.2.2.2.2.1
theorem dL_715 : decode code 715 = .ok (.iconst 2, 1) := dM_706.2.2.2.2.2.2.2.1
theorem dL_716 : decode code 716 = .ok (.iadd, 1) := dM_706.2.2.2.2.2.2.2.2.1
theorem dL_717 : decode code 717 = .ok (.iaload, 1) := dM_706.2.2.2.2.2.2.2.2.2
theorem dM_718 : decode code 718 = .ok (.aload_n 0, 1) ∧ decode code 719 = .ok (.iload 4, 2) ∧ decode code 721 = .ok (.iconst 3, 1) ∧ decode code 722 = .ok (.iadd, 1) ∧ decode code 723 = .ok (.iaload, 1) ∧ decode code 724 = .ok (.invokevirtual 101, 3) ∧ decode code 727 = .ok (.istore 6, 2) ∧ decode code 729 = .ok (.goto 339, 3) := by decide +kernel
theorem dL_718 : decode code 718 = .ok (.aload_n 0, 1) := dM_718.1
theorem dL_719 : decode code 719 = .ok (.iload 4, 2) := dM_718.2.1
theorem dL_721 : decode code 721 = .ok (.iconst 3, 1) := dM_718.2.2.1
theorem dL_722 : decode code 722 = .ok (.iadd, 1) := dM_718.2.2.2.1
theorem dL_723 : decode code 723 = .ok (.iaload, 1) := dM_718.2.2.2.2.1
theorem dL_724 : decode code 724 = .ok (.invokevirtual 101, 3) := dM_718.2.2.2.2.2.1
theorem dL_727 : decode code 727 = .ok (.istore 6, 2) := dM_718.2.2.2.2.2.2.1
theorem dL_729 : decode code 729 = .ok (.goto 339, 3) := dM_718.2.2.2.2.2.2.2
theorem jL_729 : mz_t 729 339 = 1068 ∧ (0 ≤ ((729 : Nat) : Int) + 339) := by decide +kernel
theorem dM_732 : decode code 732 = .ok (.aload_n 1, 1) ∧ decode code 733 = .ok (.aload_n 0, 1) ∧ decode code 734 = .ok (.iload 4, 2) ∧ decode code 736 = .ok (.iconst 1, 1) ∧ decode code 737 = .ok (.iadd, 1) ∧ decode code 738 = .ok (.iaload, 1) ∧ decode code 739 = .ok (.aload_n 0, 1) ∧ decode code 740 = .ok (.iload 4, 2) ∧ decode code 742 = .ok (.iconst 2, 1) ∧ decode code 743 = .ok (.iadd, 1) := by decide +kernel
theorem dL_732 : decode code 732 = .ok (.aload_n 1, 1) := dM_732.1
theorem dL_733 : decode code 733 = .ok (.aload_n 0, 1) := dM_732.2.1
theorem dL_734 : decode code 734 = .ok (.iload 4, 2) := dM_732.2.2.1
theorem dL_736 : decode code 736 = .ok (.iconst 1, 1) := dM_732.2.2.2.1
theorem dL_737 : decode code 737 = .ok (.iadd, 1) := dM_732.2.2.2.2.1
theorem dL_738 : decode code 738 = .ok (.iaload, 1) := dM_732.2.2.2.2.2.1
theorem dL_739 : decode code 739 = .ok (.aload_n 0, 1) := dM_732.2.2.2.2.2.2.1
theorem dL_740 : decode code 740 = .ok (.iload 4, 2) := dM_732.2.2.2.2.2.2.2.1
theorem dL_742 : decode code 742 = .ok (.iconst 2, 1) := dM_732.2.2.2.2.2.2.2.2.1
theorem dL_743 : decode code 743 = .ok (.iadd, 1) := dM_732.2.2.2.2.2.2.2.2.2
theorem dM_744 : decode code 744 = .ok (.iaload, 1) ∧ decode code 745 = .ok (.aload_n 0, 1) ∧ decode code 746 = .ok (.iload 4, 2) ∧ decode code 748 = .ok (.iconst 3, 1) ∧ decode code 749 = .ok (.iadd, 1) ∧ decode code 750 = .ok (.iaload, 1) ∧ decode code 751 = .ok (.aload_n 0, 1) ∧ decode code 752 = .ok (.iload 4, 2) ∧ decode code 754 = .ok (.iconst 4, 1) ∧ decode code 755 = .ok (.iadd, 1) := by decide +kernel
theorem dL_744 : decode code 744 = .ok (.iaload, 1) := dM_744.1
theorem dL_745 : decode code 745 = .ok (.aload_n 0, 1) := dM_744.2.1
theorem dL_746 : decode code 746 = .ok (.iload 4, 2) := dM_744.2.2.1
theorem dL_748 : decode code 748 = .ok (.iconst 3, 1) := dM_744.2.2.2.1
theorem dL_749 : decode code 749 = .ok (.iadd, 1) := dM_744.2.2.2.2.1
theorem dL_750 : decode code 750 = .ok (.iaload, 1) := dM_744.2.2.2.2.2.1
theorem dL_751 : decode code 751 = .ok (.aload_n 0, 1) := dM_744.2.2.2.2.2.2.1
theorem dL_752 : decode code 752 = .ok (.iload 4, 2) := dM_744.2.2.2.2.2.2.2.1
theorem dL_754 : decode code 754 = .ok (.iconst 4, 1) := dM_744.2.2.2.2.2.2.2.2.1
theorem dL_755 : decode code 755 = .ok (.iadd, 1) := dM_744.2.2.2.2.2.2.2.2.2
theorem dM_756 : decode code 756 = .ok (.iaload, 1) ∧ decode code 757 = .ok (.aload_n 3, 1) ∧ decode code 758 = .ok (.invokestatic 102, 3) ∧ decode code 761 = .ok (.istore 5, 2) ∧ decode code 763 = .ok (.aload_n 2, 1) ∧ decode code 764 = .ok (.aload_n 0, 1) ∧ decode code 765 = .ok (.iload 4, 2) ∧ decode code 767 = .ok (.iconst 1, 1) ∧ decode code 768 = .ok (.iadd, 1) ∧ decode code 769 = .ok (.iaload, 1) := by decide +kernel
theorem dL_756 : decode code 756 = .ok (.iaload, 1) := dM_756.1
theorem dL_757 : decode code 757 = .ok (.aload_n 3, 1) := dM_756.2.1
theorem dL_758 : decode code 758 = .ok (.invokestatic 102, 3) := dM_756.2.2.1
theorem dL_761 : decode code 761 = .ok (.istore 5, 2) := dM_756.2.2.2.1
theorem dL_763 : decode code 763 = .ok (.aload_n 2, 1) := dM_756.2.2.2.2.1
theorem dL_764 : decode code 764 = .ok (.aload_n 0, 1) := dM_756.2.2.2.2.2.1
theorem dL_765 : decode code 765 = .ok (.iload 4, 2) := dM_756.2.2.2.2.2.2.1
theorem dL_767 : decode code 767 = .ok (.iconst 1, 1) := dM_756.2.2.2.2.2.2.2.1
theorem dL_768 : decode code 768 = .ok (.iadd, 1) := dM_756.2.2.2.2.2.2.2.2.1
theorem dL_769 : decode code 769 = .ok (.iaload, 1) := dM_756.2.2.2.2.2.2.2.2.2
theorem dM_770 : decode code 770 = .ok (.aload_n 0, 1) ∧ decode code 771 = .ok (.iload 4, 2) ∧ decode code 773 = .ok (.iconst 2, 1) ∧ decode code 774 = .ok (.iadd, 1) ∧ decode code 775 = .ok (.iaload, 1) ∧ decode code 776 = .ok (.aload_n 0, 1) ∧ decode code 777 = .ok (.iload 4, 2) ∧ decode code 779 = .ok (.iconst 3, 1) ∧ decode code 780 = .ok (.iadd, 1) ∧ decode code 781 = .ok (.iaload, 1) := by decide +kernel
theorem dL_770 : decode code 770 = .ok (.aload_n 0, 1) := dM_770.1
theorem dL_771 : decode code 771 = .ok (.iload 4, 2) := dM_770.2.1
theorem dL_773 : decode code 773 = .ok (.iconst 2, 1) := dM_770.2.2.1
theorem dL_774 : decode code 774 = .ok (.iadd, 1) := dM_770.2.2.2.1
theorem dL_775 : decode code 775 = .ok (.iaload, 1) := dM_770.2.2.2.2.1
theorem dL_776 : decode code 776 = .ok (.aload_n 0, 1) := dM_770.2.2.2.2.2.1
theorem dL_777 : decode code 777 = .ok (.iload 4, 2) := dM_770.2.2.2.2.2.2.1
theorem dL_779 : decode code 779 = .ok (.iconst 3, 1) := dM_770.2.2.2.2.2.2.2.1
theorem dL_780 : decode code 780 = .ok (.iadd, 1) := dM_770.2.2.2.2.2.2.2.2.1
theorem dL_781 : decode code 781 = .ok (.iaload, 1) := dM_770.2.2.2.2.2.2.2.2.2
theorem dM_782 : decode code 782 = .ok (.aload_n 0, 1) ∧ decode code 783 = .ok (.iload 4, 2) ∧ decode code 785 = .ok (.iconst 4, 1) ∧ decode code 786 = .ok (.iadd, 1) ∧ decode code 787 = .ok (.iaload, 1) ∧ decode code 788 = .ok (.invokevirtual 104, 3) ∧ decode code 791 = .ok (.istore 6, 2) ∧ decode code 793 = .ok (.goto 275, 3) := by decide +kernel
theorem dL_782 : decode code 782 = .ok (.aload_n 0, 1) := dM_782.1
theorem dL_783 : decode code 783 = .ok (.iload 4, 2) := dM_782.2.1
theorem dL_785 : decode code 785 = .ok (.iconst 4, 1) := dM_782.2.2.1
theorem dL_786 : decode code 786 = .ok (.iadd, 1) := dM_782.2.2.2.1
theorem dL_787 : decode code 787 = .ok (.iaload, 1) := dM_782.2.2.2.2.1
theorem dL_788 : decode code 788 = .ok (.invokevirtual 104, 3) := dM_782.2.2.2.2.2.1
theorem dL_791 : decode code 791 = .ok (.istore 6, 2) := dM_782.2.2.2.2.2.2.1
theorem dL_793 : decode code 793 = .ok (.goto 275, 3) := dM_782.2.2.2.2.2.2.2
theorem jL_793 : mz_t 793 275 = 1068 ∧ (0 ≤ ((793 : Nat) : Int) + 275) := by decide +kernel
theorem dM_796 : decode code 796 = .ok (.aload_n 1, 1) ∧ decode code 797 = .ok (.aload_n 0, 1) ∧ decode code 798 = .ok (.iload 4, 2) ∧ decode code 800 = .ok (.iconst 1, 1) ∧ decode code 801 = .ok (.iadd, 1) ∧ decode code 802 = .ok (.iaload, 1) ∧ decode code 803 = .ok (.aload_n 0, 1) ∧ decode code 804 = .ok (.iload 4, 2) ∧ decode code 806 = .ok (.iconst 2, 1) ∧ decode code 807 = .ok (.iadd, 1) := by decide +kernel
theorem dL_796 : decode code 796 = .ok (.aload_n 1, 1) := dM_796.1
theorem dL_797 : decode code 797 = .ok (.aload_n 0, 1) := dM_796.2.1
theorem dL_798 : decode code 798 = .ok (.iload 4, 2) := dM_796.2.2.1
theorem dL_800 : decode code 800 = .ok (.iconst 1, 1) := dM_796.2.2.2.1
theorem dL_801 : decode code 801 = .ok (.iadd, 1) := dM_796.2.2.2.2.1
theorem dL_802 : decode code 802 = .ok (.iaload, 1) := dM_796.2.2.2.2.2.1
theorem dL_803 : decode code 803 = .ok (.aload_n 0, 1) := dM_796.2.2.2.2.2.2.1
theorem dL_804 : decode code 804 = .ok (.iload 4, 2) := dM_796.2.2.2.2.2.2.2.1
theorem dL_806 : decode code 806 = .ok (.iconst 2, 1) := dM_796.2.2.2.2.2.2.2.2.1
theorem dL_807 : decode code 807 = .ok (.iadd, 1) := dM_796.2.2.2.2.2.2.2.2.2
theorem dM_808 : decode code 808 = .ok (.iaload, 1) ∧ decode code 809 = .ok (.aload_n 3, 1) ∧ decode code 810 = .ok (.invokestatic 105, 3) ∧ decode code 813 = .ok (.istore 5, 2) ∧ decode code 815 = .ok (.aload_n 2, 1) ∧ decode code 816 = .ok (.aload_n 0, 1) ∧ decode code 817 = .ok (.iload 4, 2) ∧ decode code 819 = .ok (.iconst 1, 1) ∧ decode code 820 = .ok (.iadd, 1) ∧ decode code 821 = .ok (.iaload, 1) := by decide +kernel
theorem dL_808 : decode code 808 = .ok (.iaload, 1) := dM_808.1
theorem dL_809 : decode code 809 = .ok (.aload_n 3, 1) := dM_808.2.1
theorem dL_810 : decode code 810 = .ok (.invokestatic 105, 3) := dM_808.2.2.1
theorem dL_813 : decode code 813 = .ok (.istore 5, 2) := dM_808.2.2.2.1
theorem dL_815 : decode code 815 = .ok (.aload_n 2, 1) := dM_808.2.2.2.2.1
theorem dL_816 : decode code 816 = .ok (.aload_n 0, 1) := dM_808.2.2.2.2.2.1
theorem dL_817 : decode code 817 = .ok (.iload 4, 2) := dM_808.2.2.2.2.2.2.1
theorem dL_819 : decode code 819 = .ok (.iconst 1, 1) := dM_808.2.2.2.2.2.2.2.1
theorem dL_820 : decode code 820 = .ok (.iadd, 1) := dM_808.2.2.2.2.2.2.2.2.1
theorem dL_821 : decode code 821 = .ok (.iaload, 1) := dM_808.2.2.2.2.2.2.2.2.2
theorem dM_822 : decode code 822 = .ok (.aload_n 0, 1) ∧ decode code 823 = .ok (.iload 4, 2) ∧ decode code 825 = .ok (.iconst 2, 1) ∧ decode code 826 = .ok (.iadd, 1) ∧ decode code 827 = .ok (.iaload, 1) ∧ decode code 828 = .ok (.invokevirtual 108, 3) ∧ decode code 831 = .ok (.istore 6, 2) ∧ decode code 833 = .ok (.goto 235, 3) := by decide +kernel
theorem dL_822 : decode code 822 = .ok (.aload_n 0, 1) := dM_822.1
theorem dL_823 : decode code 823 = .ok (.iload 4, 2) := dM_822.2.1
theorem dL_825 : decode code 825 = .ok (.iconst 2, 1) := dM_822.2.2.1
theorem dL_826 : decode code 826 = .ok (.iadd, 1) := dM_822.2.2.2.1
theorem dL_827 : decode code 827 = .ok (.iaload, 1) := dM_822.2.2.2.2.1
theorem dL_828 : decode code 828 = .ok (.invokevirtual 108, 3) := dM_822.2.2.2.2.2.1
theorem dL_831 : decode code 831 = .ok (.istore 6, 2) := dM_822.2.2.2.2.2.2.1
theorem dL_833 : decode code 833 = .ok (.goto 235, 3) := dM_822.2.2.2.2.2.2.2
theorem jL_833 : mz_t 833 235 = 1068 ∧ (0 ≤ ((833 : Nat) : Int) + 235) := by decide +kernel
theorem dM_836 : decode code 836 = .ok (.aload_n 1, 1) ∧ decode code 837 = .ok (.aload_n 0, 1) ∧ decode code 838 = .ok (.iload 4, 2) ∧ decode code 840 = .ok (.iconst 1, 1) ∧ decode code 841 = .ok (.iadd, 1) ∧ decode code 842 = .ok (.iaload, 1) ∧ decode code 843 = .ok (.aload_n 0, 1) ∧ decode code 844 = .ok (.iload 4, 2) ∧ decode code 846 = .ok (.iconst 2, 1) ∧ decode code 847 = .ok (.iadd, 1) := by decide +kernel
theorem dL_836 : decode code 836 = .ok (.aload_n 1, 1) := dM_836.1
theorem dL_837 : decode code 837 = .ok (.aload_n 0, 1) := dM_836.2.1
theorem dL_838 : decode code 838 = .ok (.iload 4, 2) := dM_836.2.2.1
theorem dL_840 : decode code 840 = .ok (.iconst 1, 1) := dM_836.2.2.2.1
theorem dL_841 : decode code 841 = .ok (.iadd, 1) := dM_836.2.2.2.2.1
theorem dL_842 : decode code 842 = .ok (.iaload, 1) := dM_836.2.2.2.2.2.1
theorem dL_843 : decode code 843 = .ok (.aload_n 0, 1) := dM_836.2.2.2.2.2.2.1
theorem dL_844 : decode code 844 = .ok (.iload 4, 2) := dM_836.2.2.2.2.2.2.2.1
theorem dL_846 : decode code 846 = .ok (.iconst 2, 1) := dM_836.2.2.2.2.2.2.2.2.1
theorem dL_847 : decode code 847 = .ok (.iadd, 1) := dM_836.2.2.2.2.2.2.2.2.2
theorem dM_848 : decode code 848 = .ok (.iaload, 1) ∧ decode code 849 = .ok (.aload_n 0, 1) ∧ decode code 850 = .ok (.iload 4, 2) ∧ decode code 852 = .ok (.iconst 3, 1) ∧ decode code 853 = .ok (.iadd, 1) ∧ decode code 854 = .ok (.iaload, 1) ∧ decode code 855 = .ok (.invokevirtual 109, 3) ∧ decode code 858 = .ok (.pop, 1) ∧ decode code 859 = .ok (.aload_n 2, 1) ∧ decode code 860 = .ok (.aload_n 0, 1) := by decide +kernel
theorem dL_848 : decode code 848 = .ok (.iaload, 1) := dM_848.1
theorem dL_849 : decode code 849 = .ok (.aload_n 0, 1) := dM_848.2.1
theorem dL_850 : decode code 850 = .ok (.iload 4, 2) := dM_848.2.2.1
theorem dL_852 : decode code 852 = .ok (.iconst 3, 1) := dM_848.2.2.2.1
theorem dL_853 : decode code 853 = .ok (.iadd, 1) := dM_848.2.2.2.2.1
theorem dL_854 : decode code 854 = .ok (.iaload, 1) := dM_848.2.2.2.2.2.1
theorem dL_855 : decode code 855 = .ok (.invokevirtual 109, 3) := dM_848.2.2.2.2.2.2.1
theorem dL_858 : decode code 858 = .ok (.pop, 1) := dM_848.2.2.2.2.2.2.2.1
theorem dL_859 : decode code 859 = .ok (.aload_n 2, 1) := dM_848.2.2.2.2.2.2.2.2.1
theorem dL_860 : decode code 860 = .ok (.aload_n 0, 1) := dM_848.2.2.2.2.2.2.2.2.2
theorem dM_861 : decode code 861 = .ok (.iload 4, 2) ∧ decode code 863 = .ok (.iconst 1, 1) ∧ decode code 864 = .ok (.iadd, 1) ∧ decode code 865 = .ok (.iaload, 1) ∧ decode code 866 = .ok (.aload_n 0, 1) ∧ decode code 867 = .ok (.iload 4, 2) ∧ decode code 869 = .ok (.iconst 2, 1) ∧ decode code 870 = .ok (.iadd, 1) ∧ decode code 871 = .ok (.iaload, 1) ∧ decode code 872 = .ok (.aload_n 0, 1) := by decide +kernel
theorem dL_861 : decode code 861 = .ok (.iload 4, 2) := dM_861.1
theorem dL_863 : decode code 863 = .ok (.iconst 1, 1) := dM_861.2.1
theorem dL_864 : decode code 864 = .ok (.iadd, 1) := dM_861.2.2.1
theorem dL_865 : decode code 865 = .ok (.iaload, 1) := dM_861.2.2.2.1
theorem dL_866 : decode code 866 = .ok (.aload_n 0, 1) := dM_861.2.2.2.2.1
theorem dL_867 : decode code 867 = .ok (.iload 4, 2) := dM_861.2.2.2.2.2.1
theorem dL_869 : decode code 869 = .ok (.iconst 2, 1) := dM_861.2.2.2.2.2.2.1
theorem dL_870 : decode code 870 = .ok (.iadd, 1) := dM_861.2.2.2.2.2.2.2.1
theorem dL_871 : decode code 871 = .ok (.iaload, 1) := dM_861.2.2.2.2.2.2.2.2.1
theorem dL_872 : decode code 872 = .ok (.aload_n 0, 1) := dM_861.2.2.2.2.2.2.2.2.2
theorem dM_873 : decode code 873 = .ok (.iload 4, 2) ∧ decode code 875 = .ok (.iconst 3, 1) ∧ decode code 876 = .ok (.iadd, 1) ∧ decode code 877 = .ok (.iaload, 1) ∧ decode code 878 = .ok (.invokevirtual 112, 3) ∧ decode code 881 = .ok (.pop, 1) ∧ decode code 882 = .ok (.goto 186, 3) := by decide +kernel
theorem dL_873 : decode code 873 = .ok (.iload 4, 2) := dM_873.1
theorem dL_875 : decode code 875 = .ok (.iconst 3, 1) := dM_873.2.1
theorem dL_876 : decode code 876 = .ok (.iadd, 1) := dM_873.2.2.1
theorem dL_877 : decode code 877 = .ok (.iaload, 1) := dM_873.2.2.2.1
theorem dL_878 : decode code 878 = .ok (.invokevirtual 112, 3) := dM_873.2.2.2.2.1
theorem dL_881 : decode code 881 = .ok (.pop, 1) := dM_873.2.2.2.2.2.1
theorem dL_882 : decode code 882 = .ok (.goto 186, 3) := dM_873.2.2.2.2.2.2
theorem jL_882 : mz_t 882 186 = 1068 ∧ (0 ≤ ((882 : Nat) : Int) + 186) := by decide +kernel
theorem dM_885 : decode code 885 = .ok (.aload_n 1, 1) ∧ decode code 886 = .ok (.aload_n 0, 1) ∧ decode code 887 = .ok (.iload 4, 2) ∧ decode code 889 = .ok (.iconst 1, 1) ∧ decode code 890 = .ok (.iadd, 1) ∧ decode code 891 = .ok (.iaload, 1) ∧ decode code 892 = .ok (.aload_n 0, 1) ∧ decode code 893 = .ok (.iload 4, 2) ∧ decode code 895 = .ok (.iconst 2, 1) ∧ decode code 896 = .ok (.iadd, 1) := by decide +kernel
theorem dL_885 : decode code 885 = .ok (.aload_n 1, 1) := dM_885.1
theorem dL_886 : decode code 886 = .ok (.aload_n 0, 1) := dM_885.2.1
theorem dL_887 : decode code 887 = .ok (.iload 4, 2) := dM_885.2.2.1
theorem dL_889 : decode code 889 = .ok (.iconst 1, 1) := dM_885.2.2.2.1
theorem dL_890 : decode code 890 = .ok (.iadd, 1) := dM_885.2.2.2.2.1
theorem dL_891 : decode code 891 = .ok (.iaload, 1) := dM_885.2.2.2.2.2.1
theorem dL_892 : decode code 892 = .ok (.aload_n 0, 1) := dM_885.2.2.2.2.2.2.1
theorem dL_893 : decode code 893 = .ok (.iload 4, 2) := dM_885.2.2.2.2.2.2.2.1
theorem dL_895 : decode code 895 = .ok (.iconst 2, 1) := dM_885.2.2.2.2.2.2.2.2.1
theorem dL_896 : decode code 896 = .ok (.iadd, 1) := dM_885.2.2.2.2.2.2.2.2.2
theorem dM_897 : decode code 897 = .ok (.iaload, 1) ∧ decode code 898 = .ok (.aload_n 0, 1) ∧ decode code 899 = .ok (.iload 4, 2) ∧ decode code 901 = .ok (.iconst 3, 1) ∧ decode code 902 = .ok (.iadd, 1) ∧ decode code 903 = .ok (.iaload, 1) ∧ decode code 904 = .ok (.aload_n 3, 1) ∧ decode code 905 = .ok (.invokestatic 113, 3) ∧ decode code 908 = .ok (.istore 5, 2) ∧ decode code 910 = .ok (.aload_n 2, 1) := by decide +kernel
theorem dL_897 : decode code 897 = .ok (.iaload, 1) := dM_897.1
theorem dL_898 : decode code 898 = .ok (.aload_n 0, 1) := dM_897.2.1
theorem dL_899 : decode code 899 = .ok (.iload 4, 2) := dM_897.2.2.1
theorem dL_901 : decode code 901 = .ok (.iconst 3, 1) := dM_897.2.2.2.1
theorem dL_902 : decode code 902 = .ok (.iadd, 1) := dM_897.2.2.2.2.1
theorem dL_903 : decode code 903 = .ok (.iaload, 1) := dM_897.2.2.2.2.2.1
theorem dL_904 : decode code 904 = .ok (.aload_n 3, 1) := dM_897.2.2.2.2.2.2.1
theorem dL_905 : decode code 905 = .ok (.invokestatic 113, 3) := dM_897.2.2.2.2.2.2.2.1
theorem dL_908 : decode code 908 = .ok (.istore 5, 2) := dM_897.2.2.2.2.2.2.2.2.1
theorem dL_910 : decode code 910 = .ok (.aload_n 2, 1) := dM_897.2.2.2.2.2.2.2.2.2
theorem dM_911 : decode code 911 = .ok (.aload_n 0, 1) ∧ decode code 912 = .ok (.iload 4, 2) ∧ decode code 914 = .ok (.iconst 1, 1) ∧ decode code 915 = .ok (.iadd, 1) ∧ decode code 916 = .ok (.iaload, 1) ∧ decode code 917 = .ok (.aload_n 0, 1) ∧ decode code 918 = .ok (.iload 4, 2) ∧ decode code 920 = .ok (.iconst 2, 1) ∧ decode code 921 = .ok (.iadd, 1) ∧ decode code 922 = .ok (.iaload, 1) := by decide +kernel
theorem dL_911 : decode code 911 = .ok (.aload_n 0, 1) := dM_911.1
theorem dL_912 : decode code 912 = .ok (.iload 4, 2) := dM_911.2.1
theorem dL_914 : decode code 914 = .ok (.iconst 1, 1) := dM_911.2.2.1
theorem dL_915 : decode code 915 = .ok (.iadd, 1) := dM_911.2.2.2.1
theorem dL_916 : decode code 916 = .ok (.iaload, 1) := dM_911.2.2.2.2.1
theorem dL_917 : decode code 917 = .ok (.aload_n 0, 1) := dM_911.2.2.2.2.2.1
theorem dL_918 : decode code 918 = .ok (.iload 4, 2) := dM_911.2.2.2.2.2.2.1
theorem dL_920 : decode code 920 = .ok (.iconst 2, 1) := dM_911.2.2.2.2.2.2.2.1
theorem dL_921 : decode code 921 = .ok (.iadd, 1) := dM_911.2.2.2.2.2.2.2.2.1
theorem dL_922 : decode code 922 = .ok (.iaload, 1) := dM_911.2.2.2.2.2.2.2.2.2
theorem dM_923 : decode code 923 = .ok (.aload_n 0, 1) ∧ decode code 924 = .ok (.iload 4, 2) ∧ decode code 926 = .ok (.iconst 3, 1) ∧ decode code 927 = .ok (.iadd, 1) ∧ decode code 928 = .ok (.iaload, 1) ∧ decode code 929 = .ok (.invokevirtual 115, 3) ∧ decode code 932 = .ok (.istore 6, 2) ∧ decode code 934 = .ok (.goto 134, 3) := by decide +kernel
theorem dL_923 : decode code 923 = .ok (.aload_n 0, 1) := dM_923.1
theorem dL_924 : decode code 924 = .ok (.iload 4, 2) := dM_923.2.1
theorem dL_926 : decode code 926 = .ok (.iconst 3, 1) := dM_923.2.2.1
theorem dL_927 : decode code 927 = .ok (.iadd, 1) := dM_923.2.2.2.1
theorem dL_928 : decode code 928 = .ok (.iaload, 1) := dM_923.2.2.2.2.1
theorem dL_929 : decode code 929 = .ok (.invokevirtual 115, 3) := dM_923.2.2.2.2.2.1
theorem dL_932 : decode code 932 = .ok (.istore 6, 2) := dM_923.2.2.2.2.2.2.1
theorem dL_934 : decode code 934 = .ok (.goto 134, 3) := dM_923.2.2.2.2.2.2.2
theorem jL_934 : mz_t 934 134 = 1068 ∧ (0 ≤ ((934 : Nat) : Int) + 134) := by decide +kernel
theorem dM_937 : decode code 937 = .ok (.aload_n 1, 1) ∧ decode code 938 = .ok (.aload_n 0, 1) ∧ decode code 939 = .ok (.iload 4, 2) ∧ decode code 941 = .ok (.iconst 1, 1) ∧ decode code 942 = .ok (.iadd, 1) ∧ decode code 943 = .ok (.iaload, 1) ∧ decode code 944 = .ok (.aload_n 0, 1) ∧ decode code 945 = .ok (.iload 4, 2) ∧ decode code 947 = .ok (.iconst 2, 1) ∧ decode code 948 = .ok (.iadd, 1) := by decide +kernel
theorem dL_937 : decode code 937 = .ok (.aload_n 1, 1) := dM_937.1
theorem dL_938 : decode code 938 = .ok (.aload_n 0, 1) := dM_937.2.1
theorem dL_939 : decode code 939 = .ok (.iload 4, 2) := dM_937.2.2.1
theorem dL_941 : decode code 941 = .ok (.iconst 1, 1) := dM_937.2.2.2.1
theorem dL_942 : decode code 942 = .ok (.iadd, 1) := dM_937.2.2.2.2.1
theorem dL_943 : decode code 943 = .ok (.iaload, 1) := dM_937.2.2.2.2.2.1
theorem dL_944 : decode code 944 = .ok (.aload_n 0, 1) := dM_937.2.2.2.2.2.2.1
theorem dL_945 : decode code 945 = .ok (.iload 4, 2) := dM_937.2.2.2.2.2.2.2.1
theorem dL_947 : decode code 947 = .ok (.iconst 2, 1) := dM_937.2.2.2.2.2.2.2.2.1
theorem dL_948 : decode code 948 = .ok (.iadd, 1) := dM_937.2.2.2.2.2.2.2.2.2
theorem dM_949 : decode code 949 = .ok (.iaload, 1) ∧ decode code 950 = .ok (.aload_n 3, 1) ∧ decode code 951 = .ok (.invokestatic 116, 3) ∧ decode code 954 = .ok (.istore 5, 2) ∧ decode code 956 = .ok (.aload_n 2, 1) ∧ decode code 957 = .ok (.aload_n 0, 1) ∧ decode code 958 = .ok (.iload 4, 2) ∧ decode code 960 = .ok (.iconst 1, 1) ∧ decode code 961 = .ok (.iadd, 1) ∧ decode code 962 = .ok (.iaload, 1) := by decide +kernel
theorem dL_949 : decode code 949 = .ok (.iaload, 1) := dM_949.1
theorem dL_950 : decode code 950 = .ok (.aload_n 3, 1) := dM_949.2.1
theorem dL_951 : decode code 951 = .ok (.invokestatic 116, 3) := dM_949.2.2.1
theorem dL_954 : decode code 954 = .ok (.istore 5, 2) := dM_949.2.2.2.1
theorem dL_956 : decode code 956 = .ok (.aload_n 2, 1) := dM_949.2.2.2.2.1
theorem dL_957 : decode code 957 = .ok (.aload_n 0, 1) := dM_949.2.2.2.2.2.1
theorem dL_958 : decode code 958 = .ok (.iload 4, 2) := dM_949.2.2.2.2.2.2.1
theorem dL_960 : decode code 960 = .ok (.iconst 1, 1) := dM_949.2.2.2.2.2.2.2.1
theorem dL_961 : decode code 961 = .ok (.iadd, 1) := dM_949.2.2.2.2.2.2.2.2.1
theorem dL_962 : decode code 962 = .ok (.iaload, 1) := dM_949.2.2.2.2.2.2.2.2.2
theorem dM_963 : decode code 963 = .ok (.aload_n 0, 1) ∧ decode code 964 = .ok (.iload 4, 2) ∧ decode code 966 = .ok (.iconst 2, 1) ∧ decode code 967 = .ok (.iadd, 1) ∧ decode code 968 = .ok (.iaload, 1) ∧ decode code 969 = .ok (.invokevirtual 118, 3) ∧ decode code 972 = .ok (.istore 6, 2) ∧ decode code 974 = .ok (.goto 94, 3) := by decide +kernel
theorem dL_963 : decode code 963 = .ok (.aload_n 0, 1) := dM_963.1
theorem dL_964 : decode code 964 = .ok (.iload 4, 2) := dM_963.2.1
theorem dL_966 : decode code 966 = .ok (.iconst 2, 1) := dM_963.2.2.1
theorem dL_967 : decode code 967 = .ok (.iadd, 1) := dM_963.2.2.2.1
theorem dL_968 : decode code 968 = .ok (.iaload, 1) := dM_963.2.2.2.2.1
theorem dL_969 : decode code 969 = .ok (.invokevirtual 118, 3) := dM_963.2.2.2.2.2.1
theorem dL_972 : decode code 972 = .ok (.istore 6, 2) := dM_963.2.2.2.2.2.2.1
theorem dL_974 : decode code 974 = .ok (.goto 94, 3) := dM_963.2.2.2.2.2.2.2
theorem jL_974 : mz_t 974 94 = 1068 ∧ (0 ≤ ((974 : Nat) : Int) + 94) := by decide +kernel
theorem dM_977 : decode code 977 = .ok (.aload_n 1, 1) ∧ decode code 978 = .ok (.aload_n 0, 1) ∧ decode code 979 = .ok (.iload 4, 2) ∧ decode code 981 = .ok (.iconst 1, 1) ∧ decode code 982 = .ok (.iadd, 1) ∧ decode code 983 = .ok (.iaload, 1) ∧ decode code 984 = .ok (.aload_n 3, 1) ∧ decode code 985 = .ok (.invokestatic 119, 3) ∧ decode code 988 = .ok (.istore 5, 2) ∧ decode code 990 = .ok (.aload_n 2, 1) := by decide +kernel
theorem dL_977 : decode code 977 = .ok (.aload_n 1, 1) := dM_977.1
theorem dL_978 : decode code 978 = .ok (.aload_n 0, 1) := dM_977.2.1
theorem dL_979 : decode code 979 = .ok (.iload 4, 2) := dM_977.2.2.1
theorem dL_981 : decode code 981 = .ok (.iconst 1, 1) := dM_977.2.2.2.1
theorem dL_982 : decode code 982 = .ok (.iadd, 1) := dM_977.2.2.2.2.1
theorem dL_983 : decode code 983 = .ok (.iaload, 1) := dM_977.2.2.2.2.2.1
theorem dL_984 : decode code 984 = .ok (.aload_n 3, 1) := dM_977.2.2.2.2.2.2.1
theorem dL_985 : decode code 985 = .ok (.invokestatic 119, 3) := dM_977.2.2.2.2.2.2.2.1
theorem dL_988 : decode code 988 = .ok (.istore 5, 2) := dM_977.2.2.2.2.2.2.2.2.1
theorem dL_990 : decode code 990 = .ok (.aload_n 2, 1) := dM_977.2.2.2.2.2.2.2.2.2
theorem dM_991 : decode code 991 = .ok (.aload_n 0, 1) ∧ decode code 992 = .ok (.iload 4, 2) ∧ decode code 994 = .ok (.iconst 1, 1) ∧ decode code 995 = .ok (.iadd, 1) ∧ decode code 996 = .ok (.iaload, 1) ∧ decode code 997 = .ok (.invokevirtual 122, 3) ∧ decode code 1000 = .ok (.istore 6, 2) ∧ decode code 1002 = .ok (.goto 66, 3) := by decide +kernel
theorem dL_991 : decode code 991 = .ok (.aload_n 0, 1) := dM_991.1
theorem dL_992 : decode code 992 = .ok (.iload 4, 2) := dM_991.2.1
theorem dL_994 : decode code 994 = .ok (.iconst 1, 1) := dM_991.2.2.1
theorem dL_995 : decode code 995 = .ok (.iadd, 1) := dM_991.2.2.2.1
theorem dL_996 : decode code 996 = .ok (.iaload, 1) := dM_991.2.2.2.2.1
theorem dL_997 : decode code 997 = .ok (.invokevirtual 122, 3) := dM_991.2.2.2.2.2.1
theorem dL_1000 : decode code 1000 = .ok (.istore 6, 2) := dM_991.2.2.2.2.2.2.1
theorem dL_1002 : decode code 1002 = .ok (.goto 66, 3) := dM_991.2.2.2.2.2.2.2
theorem jL_1002 : mz_t 1002 66 = 1068 ∧ (0 ≤ ((1002 : Nat) : Int) + 66) := by decide +kernel
theorem dM_1005 : decode code 1005 = .ok (.aload_n 1, 1) ∧ decode code 1006 = .ok (.invokevirtual 123, 3) ∧ decode code 1009 = .ok (.pop, 1) ∧ decode code 1010 = .ok (.aload_n 2, 1) ∧ decode code 1011 = .ok (.invokevirtual 127, 3) ∧ decode code 1014 = .ok (.pop, 1) ∧ decode code 1015 = .ok (.goto 53, 3) := by decide +kernel
theorem dL_1005 : decode code 1005 = .ok (.aload_n 1, 1) := dM_1005.1
theorem dL_1006 : decode code 1006 = .ok (.invokevirtual 123, 3) := dM_1005.2.1
theorem dL_1009 : decode code 1009 = .ok (.pop, 1) := dM_1005.2.2.1
theorem dL_1010 : decode code 1010 = .ok (.aload_n 2, 1) := dM_1005.2.2.2.1
theorem dL_1011 : decode code 1011 = .ok (.invokevirtual 127, 3) := dM_1005.2.2.2.2.1
theorem dL_1014 : decode code 1014 = .ok (.pop, 1) := dM_1005.2.2.2.2.2.1
theorem dL_1015 : decode code 1015 = .ok (.goto 53, 3) := dM_1005.2.2.2.2.2.2
theorem jL_1015 : mz_t 1015 53 = 1068 ∧ (0 ≤ ((1015 : Nat) : Int) + 53) := by decide +kernel
theorem dM_1018 : decode code 1018 = .ok (.aload_n 1, 1) ∧ decode code 1019 = .ok (.aload_n 0, 1) ∧ decode code 1020 = .ok (.iload 4, 2) ∧ decode code 1022 = .ok (.iconst 1, 1) ∧ decode code 1023 = .ok (.iadd, 1) ∧ decode code 1024 = .ok (.iaload, 1) ∧ decode code 1025 = .ok (.invokevirtual 128, 3) ∧ decode code 1028 = .ok (.pop, 1) ∧ decode code 1029 = .ok (.aload_n 2, 1) ∧ decode code 1030 = .ok (.aload_n 0, 1) := by decide +kernel
theorem dL_1018 : decode code 1018 = .ok (.aload_n 1, 1) := dM_1018.1
theorem dL_1019 : decode code 1019 = .ok (.aload_n 0, 1) := dM_1018.2.1
theorem dL_1020 : decode code 1020 = .ok (.iload 4, 2) := dM_1018.2.2.1
theorem dL_1022 : decode code 1022 = .ok (.iconst 1, 1) := dM_1018.2.2.2.1
theorem dL_1023 : decode code 1023 = .ok (.iadd, 1) := dM_1018.2.2.2.2.1
theorem dL_1024 : decode code 1024 = .ok (.iaload, 1) := dM_1018.2.2.2.2.2.1
theorem dL_1025 : decode code 1025 = .ok (.invokevirtual 128, 3) := dM_1018.2.2.2.2.2.2.1
theorem dL_1028 : decode code 1028 = .ok (.pop, 1) := dM_1018.2.2.2.2.2.2.2.1
theorem dL_1029 : decode code 1029 = .ok (.aload_n 2, 1) := dM_1018.2.2.2.2.2.2.2.2.1
theorem dL_1030 : decode code 1030 = .ok (.aload_n 0, 1) := dM_1018.2.2.2.2.2.2.2.2.2
theorem dM_1031 : decode code 1031 = .ok (.iload 4, 2) ∧ decode code 1033 = .ok (.iconst 1, 1) ∧ decode code 1034 = .ok (.iadd, 1) ∧ decode code 1035 = .ok (.iaload, 1) ∧ decode code 1036 = .ok (.invokevirtual 131, 3) ∧ decode code 1039 = .ok (.pop, 1) ∧ decode code 1040 = .ok (.goto 28, 3) := by decide +kernel
theorem dL_1031 : decode code 1031 = .ok (.iload 4, 2) := dM_1031.1
theorem dL_1033 : decode code 1033 = .ok (.iconst 1, 1) := dM_1031.2.1
theorem dL_1034 : decode code 1034 = .ok (.iadd, 1) := dM_1031.2.2.1
theorem dL_1035 : decode code 1035 = .ok (.iaload, 1) := dM_1031.2.2.2.1
theorem dL_1036 : decode code 1036 = .ok (.invokevirtual 131, 3) := dM_1031.2.2.2.2.1
theorem dL_1039 : decode code 1039 = .ok (.pop, 1) := dM_1031.2.2.2.2.2.1
theorem dL_1040 : decode code 1040 = .ok (.goto 28, 3) := dM_1031.2.2.2.2.2.2
theorem jL_1040 : mz_t 1040 28 = 1068 ∧ (0 ≤ ((1040 : Nat) : Int) + 28) := by decide +kernel
theorem dM_1043 : decode code 1043 = .ok (.aload_n 1, 1) ∧ decode code 1044 = .ok (.aload_n 0, 1) ∧ decode code 1045 = .ok (.iload 4, 2) ∧ decode code 1047 = .ok (.iconst 1, 1) ∧ decode code 1048 = .ok (.iadd, 1) ∧ decode code 1049 = .ok (.iaload, 1) ∧ decode code 1050 = .ok (.invokevirtual 132, 3) ∧ decode code 1053 = .ok (.aload_n 2, 1) ∧ decode code 1054 = .ok (.aload_n 0, 1) ∧ decode code 1055 = .ok (.iload 4, 2) := by decide +kernel
theorem dL_1043 : decode code 1043 = .ok (.aload_n 1, 1) := dM_1043.1
theorem dL_1044 : decode code 1044 = .ok (.aload_n 0, 1) := dM_1043.2.1
theorem dL_1045 : decode code 1045 = .ok (.iload 4, 2) := dM_1043.2.2.1
theorem dL_1047 : decode code 1047 = .ok (.iconst 1, 1) := dM_1043.2.2.2.1
theorem dL_1048 : decode code 1048 = .ok (.iadd, 1) := dM_1043.2.2.2.2.1
theorem dL_1049 : decode code 1049 = .ok (.iaload, 1) := dM_1043.2.2.2.2.2.1
theorem dL_1050 : decode code 1050 = .ok (.invokevirtual 132, 3) := dM_1043.2.2.2.2.2.2.1
theorem dL_1053 : decode code 1053 = .ok (.aload_n 2, 1) := dM_1043.2.2.2.2.2.2.2.1
theorem dL_1054 : decode code 1054 = .ok (.aload_n 0, 1) := dM_1043.2.2.2.2.2.2.2.2.1
theorem dL_1055 : decode code 1055 = .ok (.iload 4, 2) := dM_1043.2.2.2.2.2.2.2.2.2
theorem dM_1057 : decode code 1057 = .ok (.iconst 1, 1) ∧ decode code 1058 = .ok (.iadd, 1) ∧ decode code 1059 = .ok (.iaload, 1) ∧ decode code 1060 = .ok (.invokevirtual 135, 3) ∧ decode code 1063 = .ok (.if_icmp .eq 5, 3) ∧ decode code 1066 = .ok (.iconst 0, 1) ∧ decode code 1067 = .ok (.ireturn, 1) := by decide +kernel
theorem dL_1057 : decode code 1057 = .ok (.iconst 1, 1) := dM_1057.1
theorem dL_1058 : decode code 1058 = .ok (.iadd, 1) := dM_1057.2.1
theorem dL_1059 : decode code 1059 = .ok (.iaload, 1) := dM_1057.2.2.1
theorem dL_1060 : decode code 1060 = .ok (.invokevirtual 135, 3) := dM_1057.2.2.2.1
theorem dL_1063 : decode code 1063 = .ok (.if_icmp .eq 5, 3) := dM_1057.2.2.2.2.1
theorem jL_1063 : mz_t 1063 5 = 1068 ∧ (0 ≤ ((1063 : Nat) : Int) + 5) := by decide +kernel
theorem dL_1066 : decode code 1066 = .ok (.iconst 0, 1) := dM_1057.2.2.2.2.2.1
theorem dL_1067 : decode code 1067 = .ok (.ireturn, 1) := dM_1057.2.2.2.2.2.2
theorem dM_1068 : decode code 1068 = .ok (.iinc 4 6, 3) ∧ decode code 1071 = .ok (.goto (-1048), 3) ∧ decode code 1074 = .ok (.iconst 1, 1) ∧ decode code 1075 = .ok (.ireturn, 1) := by decide +kernel
theorem dL_1068 : decode code 1068 = .ok (.iinc 4 6, 3) := dM_1068.1
theorem dL_1071 : decode code 1071 = .ok (.goto (-1048), 3) := dM_1068.2.1
theorem jL_1071 : mz_t 1071 (-1048) = 23 ∧ (0 ≤ ((1071 : Nat) : Int) + (-1048)) := by decide +kernel
theorem dL_1074 : decode code 1074 = .ok (.iconst 1, 1) := dM_1068.2.2.1
theorem dL_1075 : decode code 1075 = .ok (.ireturn, 1) := dM_1068.2.2.2
theorem dL_e : decode code 1068 = .ok (.iinc 4 6, 3) ∧ decode code 1071 = .ok (.goto (-1048), 3) ∧ decode code 1074 = .ok (.iconst 1, 1) ∧ decode code 1075 = .ok (.ireturn, 1) := ⟨dL_1068, dL_1071, dL_1074, dL_1075⟩
theorem jL_e : mz_t 1071 (-1048) = 23 ∧ (0 ≤ ((1071 : Nat) : Int) + (-1048)) := by decide +kernel
end
