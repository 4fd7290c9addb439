theorem u_253 : Cond.methodLink "AutoTellerLaw" 15 ⟨"AutoTeller", "account", "(IJ)Z"⟩ ∈ wU := mU 253 (by decide +kernel) (by decide +kernel)
theorem u_269 : Cond.methodLink "AutoTellerLaw" 20 ⟨"AutoTeller", "card", "(III)Z"⟩ ∈ wU := mU 269 (by decide +kernel) (by decide +kernel)
theorem u_286 : Cond.methodLink "AutoTellerLaw" 25 ⟨"AutoTeller", "load", "(III)Z"⟩ ∈ wU := mU 286 (by decide +kernel) (by decide +kernel)
theorem u_304 : Cond.methodLink "AutoTellerLaw" 29 ⟨"AutoTeller", "insert", "(I)Z"⟩ ∈ wU := mU 304 (by decide +kernel) (by decide +kernel)
theorem u_313 : Cond.methodLink "AutoTellerLaw" 34 ⟨"AutoTeller", "pin", "(I)Z"⟩ ∈ wU := mU 313 (by decide +kernel) (by decide +kernel)
theorem u_359 : Cond.methodLink "AutoTellerLaw" 38 ⟨"AutoTeller", "ask", "(I)I"⟩ ∈ wU := mU 359 (by decide +kernel) (by decide +kernel)
theorem u_404 : Cond.methodLink "AutoTellerLaw" 43 ⟨"AutoTeller", "eject", "()Z"⟩ ∈ wU := mU 404 (by decide +kernel) (by decide +kernel)
theorem u_416 : Cond.methodLink "AutoTellerLaw" 48 ⟨"AutoTeller", "take", "()I"⟩ ∈ wU := mU 416 (by decide +kernel) (by decide +kernel)
theorem u_425 : Cond.methodLink "AutoTellerLaw" 53 ⟨"AutoTeller", "timeout", "()Z"⟩ ∈ wU := mU 425 (by decide +kernel) (by decide +kernel)
theorem u_449 : Cond.methodLink "AutoTellerLaw" 57 ⟨"AutoTeller", "deliver", "(I)I"⟩ ∈ wU := mU 449 (by decide +kernel) (by decide +kernel)
theorem u_556 : Cond.methodLink "AutoTellerLaw" 61 ⟨"AutoTeller", "twice", "(I)I"⟩ ∈ wU := mU 556 (by decide +kernel) (by decide +kernel)
theorem u_560 : Cond.methodLink "AutoTellerLaw" 65 ⟨"AutoTeller", "lose", "(I)I"⟩ ∈ wU := mU 560 (by decide +kernel) (by decide +kernel)
theorem u_564 : Cond.methodLink "AutoTellerLaw" 69 ⟨"AutoTeller", "poke", "(III)Z"⟩ ∈ wU := mU 564 (by decide +kernel) (by decide +kernel)
theorem u_575 : Cond.methodLink "AutoTellerLaw" 73 ⟨"AutoTeller", "letter", "(II)I"⟩ ∈ wU := mU 575 (by decide +kernel) (by decide +kernel)
theorem u_583 : Cond.methodLink "AutoTellerLaw" 78 ⟨"AutoTeller", "cut", "()Z"⟩ ∈ wU := mU 583 (by decide +kernel) (by decide +kernel)
theorem u_591 : Cond.methodLink "AutoTellerLaw" 82 ⟨"AutoTeller", "arm", "(I)Z"⟩ ∈ wU := mU 591 (by decide +kernel) (by decide +kernel)
theorem u_601 : Cond.methodLink "AutoTellerLaw" 86 ⟨"AutoTeller", "power", "()Z"⟩ ∈ wU := mU 601 (by decide +kernel) (by decide +kernel)
theorem u_627 : Cond.methodLink "AutoTellerLaw" 90 ⟨"AutoTeller", "cassette", "(II)I"⟩ ∈ wU := mU 627 (by decide +kernel) (by decide +kernel)
theorem u_635 : Cond.methodLink "AutoTellerLaw" 94 ⟨"AutoTeller", "mix", "(II)I"⟩ ∈ wU := mU 635 (by decide +kernel) (by decide +kernel)
theorem u_644 : Cond.methodLink "AutoTellerLaw" 98 ⟨"AutoTeller", "balance", "(I)J"⟩ ∈ wU := mU 644 (by decide +kernel) (by decide +kernel)
theorem u_653 : Cond.methodLink "AutoTellerLaw" 103 ⟨"AutoTeller", "ofCard", "(II)I"⟩ ∈ wU := mU 653 (by decide +kernel) (by decide +kernel)
theorem u_669 : Cond.methodLink "AutoTellerLaw" 107 ⟨"AutoTeller", "record", "(II)I"⟩ ∈ wU := mU 669 (by decide +kernel) (by decide +kernel)
theorem u_674 : Cond.methodLink "AutoTellerLaw" 111 ⟨"AutoTeller", "count", "(I)J"⟩ ∈ wU := mU 674 (by decide +kernel) (by decide +kernel)
theorem u_794 : Cond.methodLink "AutoTellerLaw" 19 ⟨"AutoTellerModel", "account", "(IJ)Z"⟩ ∈ wU := mU 794 (by decide +kernel) (by decide +kernel)
theorem u_799 : Cond.methodLink "AutoTellerLaw" 24 ⟨"AutoTellerModel", "card", "(III)Z"⟩ ∈ wU := mU 799 (by decide +kernel) (by decide +kernel)
theorem u_803 : Cond.methodLink "AutoTellerLaw" 28 ⟨"AutoTellerModel", "load", "(III)Z"⟩ ∈ wU := mU 803 (by decide +kernel) (by decide +kernel)
theorem u_807 : Cond.methodLink "AutoTellerLaw" 33 ⟨"AutoTellerModel", "insert", "(I)Z"⟩ ∈ wU := mU 807 (by decide +kernel) (by decide +kernel)
theorem u_811 : Cond.methodLink "AutoTellerLaw" 37 ⟨"AutoTellerModel", "pin", "(I)Z"⟩ ∈ wU := mU 811 (by decide +kernel) (by decide +kernel)
theorem u_839 : Cond.methodLink "AutoTellerLaw" 42 ⟨"AutoTellerModel", "ask", "(I)I"⟩ ∈ wU := mU 839 (by decide +kernel) (by decide +kernel)
theorem u_852 : Cond.methodLink "AutoTellerLaw" 47 ⟨"AutoTellerModel", "eject", "()Z"⟩ ∈ wU := mU 852 (by decide +kernel) (by decide +kernel)
theorem u_856 : Cond.methodLink "AutoTellerLaw" 52 ⟨"AutoTellerModel", "take", "()I"⟩ ∈ wU := mU 856 (by decide +kernel) (by decide +kernel)
theorem u_860 : Cond.methodLink "AutoTellerLaw" 56 ⟨"AutoTellerModel", "timeout", "()Z"⟩ ∈ wU := mU 860 (by decide +kernel) (by decide +kernel)
theorem u_872 : Cond.methodLink "AutoTellerLaw" 60 ⟨"AutoTellerModel", "deliver", "(I)I"⟩ ∈ wU := mU 872 (by decide +kernel) (by decide +kernel)
theorem u_912 : Cond.methodLink "AutoTellerLaw" 64 ⟨"AutoTellerModel", "twice", "(I)I"⟩ ∈ wU := mU 912 (by decide +kernel) (by decide +kernel)
theorem u_916 : Cond.methodLink "AutoTellerLaw" 68 ⟨"AutoTellerModel", "lose", "(I)I"⟩ ∈ wU := mU 916 (by decide +kernel) (by decide +kernel)
theorem u_920 : Cond.methodLink "AutoTellerLaw" 72 ⟨"AutoTellerModel", "poke", "(III)Z"⟩ ∈ wU := mU 920 (by decide +kernel) (by decide +kernel)
theorem u_924 : Cond.methodLink "AutoTellerLaw" 77 ⟨"AutoTellerModel", "letter", "(II)I"⟩ ∈ wU := mU 924 (by decide +kernel) (by decide +kernel)
theorem u_928 : Cond.methodLink "AutoTellerLaw" 81 ⟨"AutoTellerModel", "cut", "()Z"⟩ ∈ wU := mU 928 (by decide +kernel) (by decide +kernel)
theorem u_932 : Cond.methodLink "AutoTellerLaw" 85 ⟨"AutoTellerModel", "arm", "(I)Z"⟩ ∈ wU := mU 932 (by decide +kernel) (by decide +kernel)
theorem u_936 : Cond.methodLink "AutoTellerLaw" 89 ⟨"AutoTellerModel", "power", "()Z"⟩ ∈ wU := mU 936 (by decide +kernel) (by decide +kernel)
theorem u_940 : Cond.methodLink "AutoTellerLaw" 93 ⟨"AutoTellerModel", "cassette", "(II)I"⟩ ∈ wU := mU 940 (by decide +kernel) (by decide +kernel)
theorem u_944 : Cond.methodLink "AutoTellerLaw" 97 ⟨"AutoTellerModel", "mix", "(II)I"⟩ ∈ wU := mU 944 (by decide +kernel) (by decide +kernel)
theorem u_948 : Cond.methodLink "AutoTellerLaw" 102 ⟨"AutoTellerModel", "balance", "(I)J"⟩ ∈ wU := mU 948 (by decide +kernel) (by decide +kernel)
theorem u_953 : Cond.methodLink "AutoTellerLaw" 106 ⟨"AutoTellerModel", "ofCard", "(II)I"⟩ ∈ wU := mU 953 (by decide +kernel) (by decide +kernel)
theorem u_957 : Cond.methodLink "AutoTellerLaw" 110 ⟨"AutoTellerModel", "record", "(II)I"⟩ ∈ wU := mU 957 (by decide +kernel) (by decide +kernel)
theorem u_961 : Cond.methodLink "AutoTellerLaw" 114 ⟨"AutoTellerModel", "count", "(I)J"⟩ ∈ wU := mU 961 (by decide +kernel) (by decide +kernel)
theorem u_965 : Cond.constantLong "AutoTellerLaw" 13 4294967295 ∈ wU := mU 965 (by decide +kernel) (by decide +kernel)
theorem d_L_law_0 : decode code 0 = .ok (.new 7, 3) := by decide +kernel
theorem d_L_law_3 : decode code 3 = .ok (.dup, 1) := by decide +kernel
theorem d_L_law_4 : decode code 4 = .ok (.invokespecial 9, 3) := by decide +kernel
theorem d_L_law_7 : decode code 7 = .ok (.astore_n 1, 1) := by decide +kernel
theorem d_L_law_8 : decode code 8 = .ok (.new 10, 3) := by decide +kernel
theorem d_L_law_11 : decode code 11 = .ok (.dup, 1) := by decide +kernel
theorem d_L_law_12 : decode code 12 = .ok (.invokespecial 12, 3) := by decide +kernel
theorem d_L_law_15 : decode code 15 = .ok (.astore_n 2, 1) := by decide +kernel
theorem d_L_law_16 : decode code 16 = .ok (.iconst 0, 1) := by decide +kernel
theorem d_L_law_17 : decode code 17 = .ok (.istore_n 3, 1) := by decide +kernel
theorem d_L_law_18 : decode code 18 = .ok (.iload_n 3, 1) := by decide +kernel
theorem d_L_law_19 : decode code 19 = .ok (.aload_n 0, 1) := by decide +kernel
theorem d_L_law_20 : decode code 20 = .ok (.arraylength, 1) := by decide +kernel
theorem d_L_law_21 : decode code 21 = .ok (.iconst 4, 1) := by decide +kernel
theorem d_L_law_22 : decode code 22 = .ok (.isub, 1) := by decide +kernel
theorem d_L_law_23 : decode code 23 = .ok (.if_icmp .gt 754, 3) := by decide +kernel
theorem d_L_law_26 : decode code 26 = .ok (.aload_n 0, 1) := by decide +kernel
theorem d_L_law_27 : decode code 27 = .ok (.iload_n 3, 1) := by decide +kernel
theorem d_L_law_28 : decode code 28 = .ok (.iaload, 1) := by decide +kernel
theorem d_L_law_29 : decode code 29 = .ok (.bipush 31, 2) := by decide +kernel
theorem d_L_law_31 : decode code 31 = .ok (.iand, 1) := by decide +kernel
theorem d_L_law_32 : decode code 32 = .ok (.tableswitch 739 0 22 #[108, 171, 214, 257, 280, 303, 326, 339, 352, 365, 388, 411, 434, 477, 510, 523, 546, 559, 592, 625, 649, 682, 715], 108) := by decide +kernel
theorem d_L_law_140 : decode code 140 = .ok (.aload_n 1, 1) := by decide +kernel
theorem d_L_law_141 : decode code 141 = .ok (.aload_n 0, 1) := by decide +kernel
theorem d_L_law_142 : decode code 142 = .ok (.iload_n 3, 1) := by decide +kernel
theorem d_L_law_143 : decode code 143 = .ok (.iconst 1, 1) := by decide +kernel
theorem d_L_law_144 : decode code 144 = .ok (.iadd, 1) := by decide +kernel
theorem d_L_law_145 : decode code 145 = .ok (.iaload, 1) := by decide +kernel
theorem d_L_law_146 : decode code 146 = .ok (.aload_n 0, 1) := by decide +kernel
theorem d_L_law_147 : decode code 147 = .ok (.iload_n 3, 1) := by decide +kernel
theorem d_L_law_148 : decode code 148 = .ok (.iconst 2, 1) := by decide +kernel
theorem d_L_law_149 : decode code 149 = .ok (.iadd, 1) := by decide +kernel
theorem d_L_law_150 : decode code 150 = .ok (.iaload, 1) := by decide +kernel
theorem d_L_law_151 : decode code 151 = .ok (.i2l, 1) := by decide +kernel
theorem d_L_law_152 : decode code 152 = .ok (.bipush 32, 2) := by decide +kernel
theorem d_L_law_154 : decode code 154 = .ok (.lshl, 1) := by decide +kernel
theorem d_L_law_155 : decode code 155 = .ok (.aload_n 0, 1) := by decide +kernel
theorem d_L_law_156 : decode code 156 = .ok (.iload_n 3, 1) := by decide +kernel
theorem d_L_law_157 : decode code 157 = .ok (.iconst 3, 1) := by decide +kernel
theorem d_L_law_158 : decode code 158 = .ok (.iadd, 1) := by decide +kernel
theorem d_L_law_159 : decode code 159 = .ok (.iaload, 1) := by decide +kernel
theorem d_L_law_160 : decode code 160 = .ok (.i2l, 1) := by decide +kernel
theorem d_L_law_161 : decode code 161 = .ok (.ldc2_w 13, 3) := by decide +kernel
theorem d_L_law_164 : decode code 164 = .ok (.land, 1) := by decide +kernel
theorem d_L_law_165 : decode code 165 = .ok (.lor, 1) := by decide +kernel
theorem d_L_law_166 : decode code 166 = .ok (.invokevirtual 15, 3) := by decide +kernel
theorem d_L_law_169 : decode code 169 = .ok (.aload_n 2, 1) := by decide +kernel
theorem d_L_law_170 : decode code 170 = .ok (.aload_n 0, 1) := by decide +kernel
theorem d_L_law_171 : decode code 171 = .ok (.iload_n 3, 1) := by decide +kernel
theorem d_L_law_172 : decode code 172 = .ok (.iconst 1, 1) := by decide +kernel
theorem d_L_law_173 : decode code 173 = .ok (.iadd, 1) := by decide +kernel
theorem d_L_law_174 : decode code 174 = .ok (.iaload, 1) := by decide +kernel
theorem d_L_law_175 : decode code 175 = .ok (.aload_n 0, 1) := by decide +kernel
theorem d_L_law_176 : decode code 176 = .ok (.iload_n 3, 1) := by decide +kernel
theorem d_L_law_177 : decode code 177 = .ok (.iconst 2, 1) := by decide +kernel
theorem d_L_law_178 : decode code 178 = .ok (.iadd, 1) := by decide +kernel
theorem d_L_law_179 : decode code 179 = .ok (.iaload, 1) := by decide +kernel
theorem d_L_law_180 : decode code 180 = .ok (.i2l, 1) := by decide +kernel
theorem d_L_law_181 : decode code 181 = .ok (.bipush 32, 2) := by decide +kernel
theorem d_L_law_183 : decode code 183 = .ok (.lshl, 1) := by decide +kernel
theorem d_L_law_184 : decode code 184 = .ok (.aload_n 0, 1) := by decide +kernel
theorem d_L_law_185 : decode code 185 = .ok (.iload_n 3, 1) := by decide +kernel
theorem d_L_law_186 : decode code 186 = .ok (.iconst 3, 1) := by decide +kernel
theorem d_L_law_187 : decode code 187 = .ok (.iadd, 1) := by decide +kernel
theorem d_L_law_188 : decode code 188 = .ok (.iaload, 1) := by decide +kernel
theorem d_L_law_189 : decode code 189 = .ok (.i2l, 1) := by decide +kernel
theorem d_L_law_190 : decode code 190 = .ok (.ldc2_w 13, 3) := by decide +kernel
theorem d_L_law_193 : decode code 193 = .ok (.land, 1) := by decide +kernel
theorem d_L_law_194 : decode code 194 = .ok (.lor, 1) := by decide +kernel
theorem d_L_law_195 : decode code 195 = .ok (.invokevirtual 19, 3) := by decide +kernel
theorem d_L_law_198 : decode code 198 = .ok (.if_icmp .eq 573, 3) := by decide +kernel
theorem d_L_law_201 : decode code 201 = .ok (.iconst 0, 1) := by decide +kernel
theorem d_L_law_202 : decode code 202 = .ok (.ireturn, 1) := by decide +kernel
theorem d_L_law_203 : decode code 203 = .ok (.aload_n 1, 1) := by decide +kernel
theorem d_L_law_204 : decode code 204 = .ok (.aload_n 0, 1) := by decide +kernel
theorem d_L_law_205 : decode code 205 = .ok (.iload_n 3, 1) := by decide +kernel
theorem d_L_law_206 : decode code 206 = .ok (.iconst 1, 1) := by decide +kernel
theorem d_L_law_207 : decode code 207 = .ok (.iadd, 1) := by decide +kernel
theorem d_L_law_208 : decode code 208 = .ok (.iaload, 1) := by decide +kernel
theorem d_L_law_209 : decode code 209 = .ok (.aload_n 0, 1) := by decide +kernel
theorem d_L_law_210 : decode code 210 = .ok (.iload_n 3, 1) := by decide +kernel
theorem d_L_law_211 : decode code 211 = .ok (.iconst 2, 1) := by decide +kernel
theorem d_L_law_212 : decode code 212 = .ok (.iadd, 1) := by decide +kernel
theorem d_L_law_213 : decode code 213 = .ok (.iaload, 1) := by decide +kernel
theorem d_L_law_214 : decode code 214 = .ok (.aload_n 0, 1) := by decide +kernel
theorem d_L_law_215 : decode code 215 = .ok (.iload_n 3, 1) := by decide +kernel
theorem d_L_law_216 : decode code 216 = .ok (.iconst 3, 1) := by decide +kernel
theorem d_L_law_217 : decode code 217 = .ok (.iadd, 1) := by decide +kernel
theorem d_L_law_218 : decode code 218 = .ok (.iaload, 1) := by decide +kernel
theorem d_L_law_219 : decode code 219 = .ok (.invokevirtual 20, 3) := by decide +kernel
theorem d_L_law_222 : decode code 222 = .ok (.aload_n 2, 1) := by decide +kernel
theorem d_L_law_223 : decode code 223 = .ok (.aload_n 0, 1) := by decide +kernel
theorem d_L_law_224 : decode code 224 = .ok (.iload_n 3, 1) := by decide +kernel
theorem d_L_law_225 : decode code 225 = .ok (.iconst 1, 1) := by decide +kernel
theorem d_L_law_226 : decode code 226 = .ok (.iadd, 1) := by decide +kernel
theorem d_L_law_227 : decode code 227 = .ok (.iaload, 1) := by decide +kernel
theorem d_L_law_228 : decode code 228 = .ok (.aload_n 0, 1) := by decide +kernel
theorem d_L_law_229 : decode code 229 = .ok (.iload_n 3, 1) := by decide +kernel
theorem d_L_law_230 : decode code 230 = .ok (.iconst 2, 1) := by decide +kernel
theorem d_L_law_231 : decode code 231 = .ok (.iadd, 1) := by decide +kernel
theorem d_L_law_232 : decode code 232 = .ok (.iaload, 1) := by decide +kernel
theorem d_L_law_233 : decode code 233 = .ok (.aload_n 0, 1) := by decide +kernel
theorem d_L_law_234 : decode code 234 = .ok (.iload_n 3, 1) := by decide +kernel
theorem d_L_law_235 : decode code 235 = .ok (.iconst 3, 1) := by decide +kernel
theorem d_L_law_236 : decode code 236 = .ok (.iadd, 1) := by decide +kernel
theorem d_L_law_237 : decode code 237 = .ok (.iaload, 1) := by decide +kernel
theorem d_L_law_238 : decode code 238 = .ok (.invokevirtual 24, 3) := by decide +kernel
theorem d_L_law_241 : decode code 241 = .ok (.if_icmp .eq 530, 3) := by decide +kernel
theorem d_L_law_244 : decode code 244 = .ok (.iconst 0, 1) := by decide +kernel
theorem d_L_law_245 : decode code 245 = .ok (.ireturn, 1) := by decide +kernel
theorem d_L_law_246 : decode code 246 = .ok (.aload_n 1, 1) := by decide +kernel
theorem d_L_law_247 : decode code 247 = .ok (.aload_n 0, 1) := by decide +kernel
theorem d_L_law_248 : decode code 248 = .ok (.iload_n 3, 1) := by decide +kernel
theorem d_L_law_249 : decode code 249 = .ok (.iconst 1, 1) := by decide +kernel
theorem d_L_law_250 : decode code 250 = .ok (.iadd, 1) := by decide +kernel
theorem d_L_law_251 : decode code 251 = .ok (.iaload, 1) := by decide +kernel
theorem d_L_law_252 : decode code 252 = .ok (.aload_n 0, 1) := by decide +kernel
theorem d_L_law_253 : decode code 253 = .ok (.iload_n 3, 1) := by decide +kernel
theorem d_L_law_254 : decode code 254 = .ok (.iconst 2, 1) := by decide +kernel
theorem d_L_law_255 : decode code 255 = .ok (.iadd, 1) := by decide +kernel
theorem d_L_law_256 : decode code 256 = .ok (.iaload, 1) := by decide +kernel
theorem d_L_law_257 : decode code 257 = .ok (.aload_n 0, 1) := by decide +kernel
theorem d_L_law_258 : decode code 258 = .ok (.iload_n 3, 1) := by decide +kernel
theorem d_L_law_259 : decode code 259 = .ok (.iconst 3, 1) := by decide +kernel
theorem d_L_law_260 : decode code 260 = .ok (.iadd, 1) := by decide +kernel
theorem d_L_law_261 : decode code 261 = .ok (.iaload, 1) := by decide +kernel
theorem d_L_law_262 : decode code 262 = .ok (.invokevirtual 25, 3) := by decide +kernel
theorem d_L_law_265 : decode code 265 = .ok (.aload_n 2, 1) := by decide +kernel
theorem d_L_law_266 : decode code 266 = .ok (.aload_n 0, 1) := by decide +kernel
theorem d_L_law_267 : decode code 267 = .ok (.iload_n 3, 1) := by decide +kernel
theorem d_L_law_268 : decode code 268 = .ok (.iconst 1, 1) := by decide +kernel
theorem d_L_law_269 : decode code 269 = .ok (.iadd, 1) := by decide +kernel
theorem d_L_law_270 : decode code 270 = .ok (.iaload, 1) := by decide +kernel
theorem d_L_law_271 : decode code 271 = .ok (.aload_n 0, 1) := by decide +kernel
theorem d_L_law_272 : decode code 272 = .ok (.iload_n 3, 1) := by decide +kernel
theorem d_L_law_273 : decode code 273 = .ok (.iconst 2, 1) := by decide +kernel
theorem d_L_law_274 : decode code 274 = .ok (.iadd, 1) := by decide +kernel
theorem d_L_law_275 : decode code 275 = .ok (.iaload, 1) := by decide +kernel
theorem d_L_law_276 : decode code 276 = .ok (.aload_n 0, 1) := by decide +kernel
theorem d_L_law_277 : decode code 277 = .ok (.iload_n 3, 1) := by decide +kernel
theorem d_L_law_278 : decode code 278 = .ok (.iconst 3, 1) := by decide +kernel
theorem d_L_law_279 : decode code 279 = .ok (.iadd, 1) := by decide +kernel
theorem d_L_law_280 : decode code 280 = .ok (.iaload, 1) := by decide +kernel
theorem d_L_law_281 : decode code 281 = .ok (.invokevirtual 28, 3) := by decide +kernel
theorem d_L_law_284 : decode code 284 = .ok (.if_icmp .eq 487, 3) := by decide +kernel
theorem d_L_law_287 : decode code 287 = .ok (.iconst 0, 1) := by decide +kernel
theorem d_L_law_288 : decode code 288 = .ok (.ireturn, 1) := by decide +kernel
theorem d_L_law_289 : decode code 289 = .ok (.aload_n 1, 1) := by decide +kernel
theorem d_L_law_290 : decode code 290 = .ok (.aload_n 0, 1) := by decide +kernel
theorem d_L_law_291 : decode code 291 = .ok (.iload_n 3, 1) := by decide +kernel
theorem d_L_law_292 : decode code 292 = .ok (.iconst 1, 1) := by decide +kernel
theorem d_L_law_293 : decode code 293 = .ok (.iadd, 1) := by decide +kernel
theorem d_L_law_294 : decode code 294 = .ok (.iaload, 1) := by decide +kernel
theorem d_L_law_295 : decode code 295 = .ok (.invokevirtual 29, 3) := by decide +kernel
theorem d_L_law_298 : decode code 298 = .ok (.aload_n 2, 1) := by decide +kernel
theorem d_L_law_299 : decode code 299 = .ok (.aload_n 0, 1) := by decide +kernel
theorem d_L_law_300 : decode code 300 = .ok (.iload_n 3, 1) := by decide +kernel
theorem d_L_law_301 : decode code 301 = .ok (.iconst 1, 1) := by decide +kernel
theorem d_L_law_302 : decode code 302 = .ok (.iadd, 1) := by decide +kernel
theorem d_L_law_303 : decode code 303 = .ok (.iaload, 1) := by decide +kernel
theorem d_L_law_304 : decode code 304 = .ok (.invokevirtual 33, 3) := by decide +kernel
theorem d_L_law_307 : decode code 307 = .ok (.if_icmp .eq 464, 3) := by decide +kernel
theorem d_L_law_310 : decode code 310 = .ok (.iconst 0, 1) := by decide +kernel
theorem d_L_law_311 : decode code 311 = .ok (.ireturn, 1) := by decide +kernel
theorem d_L_law_312 : decode code 312 = .ok (.aload_n 1, 1) := by decide +kernel
theorem d_L_law_313 : decode code 313 = .ok (.aload_n 0, 1) := by decide +kernel
theorem d_L_law_314 : decode code 314 = .ok (.iload_n 3, 1) := by decide +kernel
theorem d_L_law_315 : decode code 315 = .ok (.iconst 1, 1) := by decide +kernel
theorem d_L_law_316 : decode code 316 = .ok (.iadd, 1) := by decide +kernel
theorem d_L_law_317 : decode code 317 = .ok (.iaload, 1) := by decide +kernel
theorem d_L_law_318 : decode code 318 = .ok (.invokevirtual 34, 3) := by decide +kernel
theorem d_L_law_321 : decode code 321 = .ok (.aload_n 2, 1) := by decide +kernel
theorem d_L_law_322 : decode code 322 = .ok (.aload_n 0, 1) := by decide +kernel
theorem d_L_law_323 : decode code 323 = .ok (.iload_n 3, 1) := by decide +kernel
theorem d_L_law_324 : decode code 324 = .ok (.iconst 1, 1) := by decide +kernel
theorem d_L_law_325 : decode code 325 = .ok (.iadd, 1) := by decide +kernel
theorem d_L_law_326 : decode code 326 = .ok (.iaload, 1) := by decide +kernel
theorem d_L_law_327 : decode code 327 = .ok (.invokevirtual 37, 3) := by decide +kernel
theorem d_L_law_330 : decode code 330 = .ok (.if_icmp .eq 441, 3) := by decide +kernel
theorem d_L_law_333 : decode code 333 = .ok (.iconst 0, 1) := by decide +kernel
theorem d_L_law_334 : decode code 334 = .ok (.ireturn, 1) := by decide +kernel
theorem d_L_law_335 : decode code 335 = .ok (.aload_n 1, 1) := by decide +kernel
theorem d_L_law_336 : decode code 336 = .ok (.aload_n 0, 1) := by decide +kernel
theorem d_L_law_337 : decode code 337 = .ok (.iload_n 3, 1) := by decide +kernel
theorem d_L_law_338 : decode code 338 = .ok (.iconst 1, 1) := by decide +kernel
theorem d_L_law_339 : decode code 339 = .ok (.iadd, 1) := by decide +kernel
theorem d_L_law_340 : decode code 340 = .ok (.iaload, 1) := by decide +kernel
theorem d_L_law_341 : decode code 341 = .ok (.invokevirtual 38, 3) := by decide +kernel
theorem d_L_law_344 : decode code 344 = .ok (.aload_n 2, 1) := by decide +kernel
theorem d_L_law_345 : decode code 345 = .ok (.aload_n 0, 1) := by decide +kernel
theorem d_L_law_346 : decode code 346 = .ok (.iload_n 3, 1) := by decide +kernel
theorem d_L_law_347 : decode code 347 = .ok (.iconst 1, 1) := by decide +kernel
theorem d_L_law_348 : decode code 348 = .ok (.iadd, 1) := by decide +kernel
theorem d_L_law_349 : decode code 349 = .ok (.iaload, 1) := by decide +kernel
theorem d_L_law_350 : decode code 350 = .ok (.invokevirtual 42, 3) := by decide +kernel
theorem d_L_law_353 : decode code 353 = .ok (.if_icmp .eq 418, 3) := by decide +kernel
theorem d_L_law_356 : decode code 356 = .ok (.iconst 0, 1) := by decide +kernel
theorem d_L_law_357 : decode code 357 = .ok (.ireturn, 1) := by decide +kernel
theorem d_L_law_358 : decode code 358 = .ok (.aload_n 1, 1) := by decide +kernel
theorem d_L_law_359 : decode code 359 = .ok (.invokevirtual 43, 3) := by decide +kernel
theorem d_L_law_362 : decode code 362 = .ok (.aload_n 2, 1) := by decide +kernel
theorem d_L_law_363 : decode code 363 = .ok (.invokevirtual 47, 3) := by decide +kernel
theorem d_L_law_366 : decode code 366 = .ok (.if_icmp .eq 405, 3) := by decide +kernel
theorem d_L_law_369 : decode code 369 = .ok (.iconst 0, 1) := by decide +kernel
theorem d_L_law_370 : decode code 370 = .ok (.ireturn, 1) := by decide +kernel
theorem d_L_law_371 : decode code 371 = .ok (.aload_n 1, 1) := by decide +kernel
theorem d_L_law_372 : decode code 372 = .ok (.invokevirtual 48, 3) := by decide +kernel
theorem d_L_law_375 : decode code 375 = .ok (.aload_n 2, 1) := by decide +kernel
theorem d_L_law_376 : decode code 376 = .ok (.invokevirtual 52, 3) := by decide +kernel
theorem d_L_law_379 : decode code 379 = .ok (.if_icmp .eq 392, 3) := by decide +kernel
theorem d_L_law_382 : decode code 382 = .ok (.iconst 0, 1) := by decide +kernel
theorem d_L_law_383 : decode code 383 = .ok (.ireturn, 1) := by decide +kernel
theorem d_L_law_384 : decode code 384 = .ok (.aload_n 1, 1) := by decide +kernel
theorem d_L_law_385 : decode code 385 = .ok (.invokevirtual 53, 3) := by decide +kernel
theorem d_L_law_388 : decode code 388 = .ok (.aload_n 2, 1) := by decide +kernel
theorem d_L_law_389 : decode code 389 = .ok (.invokevirtual 56, 3) := by decide +kernel
theorem d_L_law_392 : decode code 392 = .ok (.if_icmp .eq 379, 3) := by decide +kernel
theorem d_L_law_395 : decode code 395 = .ok (.iconst 0, 1) := by decide +kernel
theorem d_L_law_396 : decode code 396 = .ok (.ireturn, 1) := by decide +kernel
theorem d_L_law_397 : decode code 397 = .ok (.aload_n 1, 1) := by decide +kernel
theorem d_L_law_398 : decode code 398 = .ok (.aload_n 0, 1) := by decide +kernel
theorem d_L_law_399 : decode code 399 = .ok (.iload_n 3, 1) := by decide +kernel
theorem d_L_law_400 : decode code 400 = .ok (.iconst 1, 1) := by decide +kernel
theorem d_L_law_401 : decode code 401 = .ok (.iadd, 1) := by decide +kernel
theorem d_L_law_402 : decode code 402 = .ok (.iaload, 1) := by decide +kernel
theorem d_L_law_403 : decode code 403 = .ok (.invokevirtual 57, 3) := by decide +kernel
theorem d_L_law_406 : decode code 406 = .ok (.aload_n 2, 1) := by decide +kernel
theorem d_L_law_407 : decode code 407 = .ok (.aload_n 0, 1) := by decide +kernel
theorem d_L_law_408 : decode code 408 = .ok (.iload_n 3, 1) := by decide +kernel
theorem d_L_law_409 : decode code 409 = .ok (.iconst 1, 1) := by decide +kernel
theorem d_L_law_410 : decode code 410 = .ok (.iadd, 1) := by decide +kernel
theorem d_L_law_411 : decode code 411 = .ok (.iaload, 1) := by decide +kernel
theorem d_L_law_412 : decode code 412 = .ok (.invokevirtual 60, 3) := by decide +kernel
theorem d_L_law_415 : decode code 415 = .ok (.if_icmp .eq 356, 3) := by decide +kernel
theorem d_L_law_418 : decode code 418 = .ok (.iconst 0, 1) := by decide +kernel
theorem d_L_law_419 : decode code 419 = .ok (.ireturn, 1) := by decide +kernel
theorem d_L_law_420 : decode code 420 = .ok (.aload_n 1, 1) := by decide +kernel
theorem d_L_law_421 : decode code 421 = .ok (.aload_n 0, 1) := by decide +kernel
theorem d_L_law_422 : decode code 422 = .ok (.iload_n 3, 1) := by decide +kernel
theorem d_L_law_423 : decode code 423 = .ok (.iconst 1, 1) := by decide +kernel
theorem d_L_law_424 : decode code 424 = .ok (.iadd, 1) := by decide +kernel
theorem d_L_law_425 : decode code 425 = .ok (.iaload, 1) := by decide +kernel
theorem d_L_law_426 : decode code 426 = .ok (.invokevirtual 61, 3) := by decide +kernel
theorem d_L_law_429 : decode code 429 = .ok (.aload_n 2, 1) := by decide +kernel
theorem d_L_law_430 : decode code 430 = .ok (.aload_n 0, 1) := by decide +kernel
theorem d_L_law_431 : decode code 431 = .ok (.iload_n 3, 1) := by decide +kernel
theorem d_L_law_432 : decode code 432 = .ok (.iconst 1, 1) := by decide +kernel
theorem d_L_law_433 : decode code 433 = .ok (.iadd, 1) := by decide +kernel
theorem d_L_law_434 : decode code 434 = .ok (.iaload, 1) := by decide +kernel
theorem d_L_law_435 : decode code 435 = .ok (.invokevirtual 64, 3) := by decide +kernel
theorem d_L_law_438 : decode code 438 = .ok (.if_icmp .eq 333, 3) := by decide +kernel
theorem d_L_law_441 : decode code 441 = .ok (.iconst 0, 1) := by decide +kernel
theorem d_L_law_442 : decode code 442 = .ok (.ireturn, 1) := by decide +kernel
theorem d_L_law_443 : decode code 443 = .ok (.aload_n 1, 1) := by decide +kernel
theorem d_L_law_444 : decode code 444 = .ok (.aload_n 0, 1) := by decide +kernel
theorem d_L_law_445 : decode code 445 = .ok (.iload_n 3, 1) := by decide +kernel
theorem d_L_law_446 : decode code 446 = .ok (.iconst 1, 1) := by decide +kernel
theorem d_L_law_447 : decode code 447 = .ok (.iadd, 1) := by decide +kernel
theorem d_L_law_448 : decode code 448 = .ok (.iaload, 1) := by decide +kernel
theorem d_L_law_449 : decode code 449 = .ok (.invokevirtual 65, 3) := by decide +kernel
theorem d_L_law_452 : decode code 452 = .ok (.aload_n 2, 1) := by decide +kernel
theorem d_L_law_453 : decode code 453 = .ok (.aload_n 0, 1) := by decide +kernel
theorem d_L_law_454 : decode code 454 = .ok (.iload_n 3, 1) := by decide +kernel
theorem d_L_law_455 : decode code 455 = .ok (.iconst 1, 1) := by decide +kernel
theorem d_L_law_456 : decode code 456 = .ok (.iadd, 1) := by decide +kernel
theorem d_L_law_457 : decode code 457 = .ok (.iaload, 1) := by decide +kernel
theorem d_L_law_458 : decode code 458 = .ok (.invokevirtual 68, 3) := by decide +kernel
theorem d_L_law_461 : decode code 461 = .ok (.if_icmp .eq 310, 3) := by decide +kernel
theorem d_L_law_464 : decode code 464 = .ok (.iconst 0, 1) := by decide +kernel
theorem d_L_law_465 : decode code 465 = .ok (.ireturn, 1) := by decide +kernel
theorem d_L_law_466 : decode code 466 = .ok (.aload_n 1, 1) := by decide +kernel
theorem d_L_law_467 : decode code 467 = .ok (.aload_n 0, 1) := by decide +kernel
theorem d_L_law_468 : decode code 468 = .ok (.iload_n 3, 1) := by decide +kernel
theorem d_L_law_469 : decode code 469 = .ok (.iconst 1, 1) := by decide +kernel
theorem d_L_law_470 : decode code 470 = .ok (.iadd, 1) := by decide +kernel
theorem d_L_law_471 : decode code 471 = .ok (.iaload, 1) := by decide +kernel
theorem d_L_law_472 : decode code 472 = .ok (.aload_n 0, 1) := by decide +kernel
theorem d_L_law_473 : decode code 473 = .ok (.iload_n 3, 1) := by decide +kernel
theorem d_L_law_474 : decode code 474 = .ok (.iconst 2, 1) := by decide +kernel
theorem d_L_law_475 : decode code 475 = .ok (.iadd, 1) := by decide +kernel
theorem d_L_law_476 : decode code 476 = .ok (.iaload, 1) := by decide +kernel
theorem d_L_law_477 : decode code 477 = .ok (.aload_n 0, 1) := by decide +kernel
theorem d_L_law_478 : decode code 478 = .ok (.iload_n 3, 1) := by decide +kernel
theorem d_L_law_479 : decode code 479 = .ok (.iconst 3, 1) := by decide +kernel
theorem d_L_law_480 : decode code 480 = .ok (.iadd, 1) := by decide +kernel
theorem d_L_law_481 : decode code 481 = .ok (.iaload, 1) := by decide +kernel
theorem d_L_law_482 : decode code 482 = .ok (.invokevirtual 69, 3) := by decide +kernel
theorem d_L_law_485 : decode code 485 = .ok (.aload_n 2, 1) := by decide +kernel
theorem d_L_law_486 : decode code 486 = .ok (.aload_n 0, 1) := by decide +kernel
theorem d_L_law_487 : decode code 487 = .ok (.iload_n 3, 1) := by decide +kernel
theorem d_L_law_488 : decode code 488 = .ok (.iconst 1, 1) := by decide +kernel
theorem d_L_law_489 : decode code 489 = .ok (.iadd, 1) := by decide +kernel
theorem d_L_law_490 : decode code 490 = .ok (.iaload, 1) := by decide +kernel
theorem d_L_law_491 : decode code 491 = .ok (.aload_n 0, 1) := by decide +kernel
theorem d_L_law_492 : decode code 492 = .ok (.iload_n 3, 1) := by decide +kernel
theorem d_L_law_493 : decode code 493 = .ok (.iconst 2, 1) := by decide +kernel
theorem d_L_law_494 : decode code 494 = .ok (.iadd, 1) := by decide +kernel
theorem d_L_law_495 : decode code 495 = .ok (.iaload, 1) := by decide +kernel
theorem d_L_law_496 : decode code 496 = .ok (.aload_n 0, 1) := by decide +kernel
theorem d_L_law_497 : decode code 497 = .ok (.iload_n 3, 1) := by decide +kernel
theorem d_L_law_498 : decode code 498 = .ok (.iconst 3, 1) := by decide +kernel
theorem d_L_law_499 : decode code 499 = .ok (.iadd, 1) := by decide +kernel
theorem d_L_law_500 : decode code 500 = .ok (.iaload, 1) := by decide +kernel
theorem d_L_law_501 : decode code 501 = .ok (.invokevirtual 72, 3) := by decide +kernel
theorem d_L_law_504 : decode code 504 = .ok (.if_icmp .eq 267, 3) := by decide +kernel
theorem d_L_law_507 : decode code 507 = .ok (.iconst 0, 1) := by decide +kernel
theorem d_L_law_508 : decode code 508 = .ok (.ireturn, 1) := by decide +kernel
theorem d_L_law_509 : decode code 509 = .ok (.aload_n 1, 1) := by decide +kernel
theorem d_L_law_510 : decode code 510 = .ok (.aload_n 0, 1) := by decide +kernel
theorem d_L_law_511 : decode code 511 = .ok (.iload_n 3, 1) := by decide +kernel
theorem d_L_law_512 : decode code 512 = .ok (.iconst 1, 1) := by decide +kernel
theorem d_L_law_513 : decode code 513 = .ok (.iadd, 1) := by decide +kernel
theorem d_L_law_514 : decode code 514 = .ok (.iaload, 1) := by decide +kernel
theorem d_L_law_515 : decode code 515 = .ok (.aload_n 0, 1) := by decide +kernel
theorem d_L_law_516 : decode code 516 = .ok (.iload_n 3, 1) := by decide +kernel
theorem d_L_law_517 : decode code 517 = .ok (.iconst 2, 1) := by decide +kernel
theorem d_L_law_518 : decode code 518 = .ok (.iadd, 1) := by decide +kernel
theorem d_L_law_519 : decode code 519 = .ok (.iaload, 1) := by decide +kernel
theorem d_L_law_520 : decode code 520 = .ok (.invokevirtual 73, 3) := by decide +kernel
theorem d_L_law_523 : decode code 523 = .ok (.aload_n 2, 1) := by decide +kernel
theorem d_L_law_524 : decode code 524 = .ok (.aload_n 0, 1) := by decide +kernel
theorem d_L_law_525 : decode code 525 = .ok (.iload_n 3, 1) := by decide +kernel
theorem d_L_law_526 : decode code 526 = .ok (.iconst 1, 1) := by decide +kernel
theorem d_L_law_527 : decode code 527 = .ok (.iadd, 1) := by decide +kernel
theorem d_L_law_528 : decode code 528 = .ok (.iaload, 1) := by decide +kernel
theorem d_L_law_529 : decode code 529 = .ok (.aload_n 0, 1) := by decide +kernel
theorem d_L_law_530 : decode code 530 = .ok (.iload_n 3, 1) := by decide +kernel
theorem d_L_law_531 : decode code 531 = .ok (.iconst 2, 1) := by decide +kernel
theorem d_L_law_532 : decode code 532 = .ok (.iadd, 1) := by decide +kernel
theorem d_L_law_533 : decode code 533 = .ok (.iaload, 1) := by decide +kernel
theorem d_L_law_534 : decode code 534 = .ok (.invokevirtual 77, 3) := by decide +kernel
theorem d_L_law_537 : decode code 537 = .ok (.if_icmp .eq 234, 3) := by decide +kernel
theorem d_L_law_540 : decode code 540 = .ok (.iconst 0, 1) := by decide +kernel
theorem d_L_law_541 : decode code 541 = .ok (.ireturn, 1) := by decide +kernel
theorem d_L_law_542 : decode code 542 = .ok (.aload_n 1, 1) := by decide +kernel
theorem d_L_law_543 : decode code 543 = .ok (.invokevirtual 78, 3) := by decide +kernel
theorem d_L_law_546 : decode code 546 = .ok (.aload_n 2, 1) := by decide +kernel
theorem d_L_law_547 : decode code 547 = .ok (.invokevirtual 81, 3) := by decide +kernel
theorem d_L_law_550 : decode code 550 = .ok (.if_icmp .eq 221, 3) := by decide +kernel
theorem d_L_law_553 : decode code 553 = .ok (.iconst 0, 1) := by decide +kernel
theorem d_L_law_554 : decode code 554 = .ok (.ireturn, 1) := by decide +kernel
theorem d_L_law_555 : decode code 555 = .ok (.aload_n 1, 1) := by decide +kernel
theorem d_L_law_556 : decode code 556 = .ok (.aload_n 0, 1) := by decide +kernel
theorem d_L_law_557 : decode code 557 = .ok (.iload_n 3, 1) := by decide +kernel
theorem d_L_law_558 : decode code 558 = .ok (.iconst 1, 1) := by decide +kernel
theorem d_L_law_559 : decode code 559 = .ok (.iadd, 1) := by decide +kernel
theorem d_L_law_560 : decode code 560 = .ok (.iaload, 1) := by decide +kernel
theorem d_L_law_561 : decode code 561 = .ok (.invokevirtual 82, 3) := by decide +kernel
theorem d_L_law_564 : decode code 564 = .ok (.aload_n 2, 1) := by decide +kernel
theorem d_L_law_565 : decode code 565 = .ok (.aload_n 0, 1) := by decide +kernel
theorem d_L_law_566 : decode code 566 = .ok (.iload_n 3, 1) := by decide +kernel
theorem d_L_law_567 : decode code 567 = .ok (.iconst 1, 1) := by decide +kernel
theorem d_L_law_568 : decode code 568 = .ok (.iadd, 1) := by decide +kernel
theorem d_L_law_569 : decode code 569 = .ok (.iaload, 1) := by decide +kernel
theorem d_L_law_570 : decode code 570 = .ok (.invokevirtual 85, 3) := by decide +kernel
theorem d_L_law_573 : decode code 573 = .ok (.if_icmp .eq 198, 3) := by decide +kernel
theorem d_L_law_576 : decode code 576 = .ok (.iconst 0, 1) := by decide +kernel
theorem d_L_law_577 : decode code 577 = .ok (.ireturn, 1) := by decide +kernel
theorem d_L_law_578 : decode code 578 = .ok (.aload_n 1, 1) := by decide +kernel
theorem d_L_law_579 : decode code 579 = .ok (.invokevirtual 86, 3) := by decide +kernel
theorem d_L_law_582 : decode code 582 = .ok (.aload_n 2, 1) := by decide +kernel
theorem d_L_law_583 : decode code 583 = .ok (.invokevirtual 89, 3) := by decide +kernel
theorem d_L_law_586 : decode code 586 = .ok (.if_icmp .eq 185, 3) := by decide +kernel
theorem d_L_law_589 : decode code 589 = .ok (.iconst 0, 1) := by decide +kernel
theorem d_L_law_590 : decode code 590 = .ok (.ireturn, 1) := by decide +kernel
theorem d_L_law_591 : decode code 591 = .ok (.aload_n 1, 1) := by decide +kernel
theorem d_L_law_592 : decode code 592 = .ok (.aload_n 0, 1) := by decide +kernel
theorem d_L_law_593 : decode code 593 = .ok (.iload_n 3, 1) := by decide +kernel
theorem d_L_law_594 : decode code 594 = .ok (.iconst 1, 1) := by decide +kernel
theorem d_L_law_595 : decode code 595 = .ok (.iadd, 1) := by decide +kernel
theorem d_L_law_596 : decode code 596 = .ok (.iaload, 1) := by decide +kernel
theorem d_L_law_597 : decode code 597 = .ok (.aload_n 0, 1) := by decide +kernel
theorem d_L_law_598 : decode code 598 = .ok (.iload_n 3, 1) := by decide +kernel
theorem d_L_law_599 : decode code 599 = .ok (.iconst 2, 1) := by decide +kernel
theorem d_L_law_600 : decode code 600 = .ok (.iadd, 1) := by decide +kernel
theorem d_L_law_601 : decode code 601 = .ok (.iaload, 1) := by decide +kernel
theorem d_L_law_602 : decode code 602 = .ok (.invokevirtual 90, 3) := by decide +kernel
theorem d_L_law_605 : decode code 605 = .ok (.aload_n 2, 1) := by decide +kernel
theorem d_L_law_606 : decode code 606 = .ok (.aload_n 0, 1) := by decide +kernel
theorem d_L_law_607 : decode code 607 = .ok (.iload_n 3, 1) := by decide +kernel
theorem d_L_law_608 : decode code 608 = .ok (.iconst 1, 1) := by decide +kernel
theorem d_L_law_609 : decode code 609 = .ok (.iadd, 1) := by decide +kernel
theorem d_L_law_610 : decode code 610 = .ok (.iaload, 1) := by decide +kernel
theorem d_L_law_611 : decode code 611 = .ok (.aload_n 0, 1) := by decide +kernel
theorem d_L_law_612 : decode code 612 = .ok (.iload_n 3, 1) := by decide +kernel
theorem d_L_law_613 : decode code 613 = .ok (.iconst 2, 1) := by decide +kernel
theorem d_L_law_614 : decode code 614 = .ok (.iadd, 1) := by decide +kernel
theorem d_L_law_615 : decode code 615 = .ok (.iaload, 1) := by decide +kernel
theorem d_L_law_616 : decode code 616 = .ok (.invokevirtual 93, 3) := by decide +kernel
theorem d_L_law_619 : decode code 619 = .ok (.if_icmp .eq 152, 3) := by decide +kernel
theorem d_L_law_622 : decode code 622 = .ok (.iconst 0, 1) := by decide +kernel
theorem d_L_law_623 : decode code 623 = .ok (.ireturn, 1) := by decide +kernel
theorem d_L_law_624 : decode code 624 = .ok (.aload_n 1, 1) := by decide +kernel
theorem d_L_law_625 : decode code 625 = .ok (.aload_n 0, 1) := by decide +kernel
theorem d_L_law_626 : decode code 626 = .ok (.iload_n 3, 1) := by decide +kernel
theorem d_L_law_627 : decode code 627 = .ok (.iconst 1, 1) := by decide +kernel
theorem d_L_law_628 : decode code 628 = .ok (.iadd, 1) := by decide +kernel
theorem d_L_law_629 : decode code 629 = .ok (.iaload, 1) := by decide +kernel
theorem d_L_law_630 : decode code 630 = .ok (.aload_n 0, 1) := by decide +kernel
theorem d_L_law_631 : decode code 631 = .ok (.iload_n 3, 1) := by decide +kernel
theorem d_L_law_632 : decode code 632 = .ok (.iconst 2, 1) := by decide +kernel
theorem d_L_law_633 : decode code 633 = .ok (.iadd, 1) := by decide +kernel
theorem d_L_law_634 : decode code 634 = .ok (.iaload, 1) := by decide +kernel
theorem d_L_law_635 : decode code 635 = .ok (.invokevirtual 94, 3) := by decide +kernel
theorem d_L_law_638 : decode code 638 = .ok (.aload_n 2, 1) := by decide +kernel
theorem d_L_law_639 : decode code 639 = .ok (.aload_n 0, 1) := by decide +kernel
theorem d_L_law_640 : decode code 640 = .ok (.iload_n 3, 1) := by decide +kernel
theorem d_L_law_641 : decode code 641 = .ok (.iconst 1, 1) := by decide +kernel
theorem d_L_law_642 : decode code 642 = .ok (.iadd, 1) := by decide +kernel
theorem d_L_law_643 : decode code 643 = .ok (.iaload, 1) := by decide +kernel
theorem d_L_law_644 : decode code 644 = .ok (.aload_n 0, 1) := by decide +kernel
theorem d_L_law_645 : decode code 645 = .ok (.iload_n 3, 1) := by decide +kernel
theorem d_L_law_646 : decode code 646 = .ok (.iconst 2, 1) := by decide +kernel
theorem d_L_law_647 : decode code 647 = .ok (.iadd, 1) := by decide +kernel
theorem d_L_law_648 : decode code 648 = .ok (.iaload, 1) := by decide +kernel
theorem d_L_law_649 : decode code 649 = .ok (.invokevirtual 97, 3) := by decide +kernel
theorem d_L_law_652 : decode code 652 = .ok (.if_icmp .eq 119, 3) := by decide +kernel
theorem d_L_law_655 : decode code 655 = .ok (.iconst 0, 1) := by decide +kernel
theorem d_L_law_656 : decode code 656 = .ok (.ireturn, 1) := by decide +kernel
theorem d_L_law_657 : decode code 657 = .ok (.aload_n 1, 1) := by decide +kernel
theorem d_L_law_658 : decode code 658 = .ok (.aload_n 0, 1) := by decide +kernel
theorem d_L_law_659 : decode code 659 = .ok (.iload_n 3, 1) := by decide +kernel
theorem d_L_law_660 : decode code 660 = .ok (.iconst 1, 1) := by decide +kernel
theorem d_L_law_661 : decode code 661 = .ok (.iadd, 1) := by decide +kernel
theorem d_L_law_662 : decode code 662 = .ok (.iaload, 1) := by decide +kernel
theorem d_L_law_663 : decode code 663 = .ok (.invokevirtual 98, 3) := by decide +kernel
theorem d_L_law_666 : decode code 666 = .ok (.aload_n 2, 1) := by decide +kernel
theorem d_L_law_667 : decode code 667 = .ok (.aload_n 0, 1) := by decide +kernel
theorem d_L_law_668 : decode code 668 = .ok (.iload_n 3, 1) := by decide +kernel
theorem d_L_law_669 : decode code 669 = .ok (.iconst 1, 1) := by decide +kernel
theorem d_L_law_670 : decode code 670 = .ok (.iadd, 1) := by decide +kernel
theorem d_L_law_671 : decode code 671 = .ok (.iaload, 1) := by decide +kernel
theorem d_L_law_672 : decode code 672 = .ok (.invokevirtual 102, 3) := by decide +kernel
theorem d_L_law_675 : decode code 675 = .ok (.lcmp, 1) := by decide +kernel
theorem d_L_law_676 : decode code 676 = .ok (.ifCond .eq 95, 3) := by decide +kernel
theorem d_L_law_679 : decode code 679 = .ok (.iconst 0, 1) := by decide +kernel
theorem d_L_law_680 : decode code 680 = .ok (.ireturn, 1) := by decide +kernel
theorem d_L_law_681 : decode code 681 = .ok (.aload_n 1, 1) := by decide +kernel
theorem d_L_law_682 : decode code 682 = .ok (.aload_n 0, 1) := by decide +kernel
theorem d_L_law_683 : decode code 683 = .ok (.iload_n 3, 1) := by decide +kernel
theorem d_L_law_684 : decode code 684 = .ok (.iconst 1, 1) := by decide +kernel
theorem d_L_law_685 : decode code 685 = .ok (.iadd, 1) := by decide +kernel
theorem d_L_law_686 : decode code 686 = .ok (.iaload, 1) := by decide +kernel
theorem d_L_law_687 : decode code 687 = .ok (.aload_n 0, 1) := by decide +kernel
theorem d_L_law_688 : decode code 688 = .ok (.iload_n 3, 1) := by decide +kernel
theorem d_L_law_689 : decode code 689 = .ok (.iconst 2, 1) := by decide +kernel
theorem d_L_law_690 : decode code 690 = .ok (.iadd, 1) := by decide +kernel
theorem d_L_law_691 : decode code 691 = .ok (.iaload, 1) := by decide +kernel
theorem d_L_law_692 : decode code 692 = .ok (.invokevirtual 103, 3) := by decide +kernel
theorem d_L_law_695 : decode code 695 = .ok (.aload_n 2, 1) := by decide +kernel
theorem d_L_law_696 : decode code 696 = .ok (.aload_n 0, 1) := by decide +kernel
theorem d_L_law_697 : decode code 697 = .ok (.iload_n 3, 1) := by decide +kernel
theorem d_L_law_698 : decode code 698 = .ok (.iconst 1, 1) := by decide +kernel
theorem d_L_law_699 : decode code 699 = .ok (.iadd, 1) := by decide +kernel
theorem d_L_law_700 : decode code 700 = .ok (.iaload, 1) := by decide +kernel
theorem d_L_law_701 : decode code 701 = .ok (.aload_n 0, 1) := by decide +kernel
theorem d_L_law_702 : decode code 702 = .ok (.iload_n 3, 1) := by decide +kernel
theorem d_L_law_703 : decode code 703 = .ok (.iconst 2, 1) := by decide +kernel
theorem d_L_law_704 : decode code 704 = .ok (.iadd, 1) := by decide +kernel
theorem d_L_law_705 : decode code 705 = .ok (.iaload, 1) := by decide +kernel
theorem d_L_law_706 : decode code 706 = .ok (.invokevirtual 106, 3) := by decide +kernel
theorem d_L_law_709 : decode code 709 = .ok (.if_icmp .eq 62, 3) := by decide +kernel
theorem d_L_law_712 : decode code 712 = .ok (.iconst 0, 1) := by decide +kernel
theorem d_L_law_713 : decode code 713 = .ok (.ireturn, 1) := by decide +kernel
theorem d_L_law_714 : decode code 714 = .ok (.aload_n 1, 1) := by decide +kernel
theorem d_L_law_715 : decode code 715 = .ok (.aload_n 0, 1) := by decide +kernel
theorem d_L_law_716 : decode code 716 = .ok (.iload_n 3, 1) := by decide +kernel
theorem d_L_law_717 : decode code 717 = .ok (.iconst 1, 1) := by decide +kernel
theorem d_L_law_718 : decode code 718 = .ok (.iadd, 1) := by decide +kernel
theorem d_L_law_719 : decode code 719 = .ok (.iaload, 1) := by decide +kernel
theorem d_L_law_720 : decode code 720 = .ok (.aload_n 0, 1) := by decide +kernel
theorem d_L_law_721 : decode code 721 = .ok (.iload_n 3, 1) := by decide +kernel
theorem d_L_law_722 : decode code 722 = .ok (.iconst 2, 1) := by decide +kernel
theorem d_L_law_723 : decode code 723 = .ok (.iadd, 1) := by decide +kernel
theorem d_L_law_724 : decode code 724 = .ok (.iaload, 1) := by decide +kernel
theorem d_L_law_725 : decode code 725 = .ok (.invokevirtual 107, 3) := by decide +kernel
theorem d_L_law_728 : decode code 728 = .ok (.aload_n 2, 1) := by decide +kernel
theorem d_L_law_729 : decode code 729 = .ok (.aload_n 0, 1) := by decide +kernel
theorem d_L_law_730 : decode code 730 = .ok (.iload_n 3, 1) := by decide +kernel
theorem d_L_law_731 : decode code 731 = .ok (.iconst 1, 1) := by decide +kernel
theorem d_L_law_732 : decode code 732 = .ok (.iadd, 1) := by decide +kernel
theorem d_L_law_733 : decode code 733 = .ok (.iaload, 1) := by decide +kernel
theorem d_L_law_734 : decode code 734 = .ok (.aload_n 0, 1) := by decide +kernel
theorem d_L_law_735 : decode code 735 = .ok (.iload_n 3, 1) := by decide +kernel
theorem d_L_law_736 : decode code 736 = .ok (.iconst 2, 1) := by decide +kernel
theorem d_L_law_737 : decode code 737 = .ok (.iadd, 1) := by decide +kernel
theorem d_L_law_738 : decode code 738 = .ok (.iaload, 1) := by decide +kernel
theorem d_L_law_739 : decode code 739 = .ok (.invokevirtual 110, 3) := by decide +kernel
theorem d_L_law_742 : decode code 742 = .ok (.if_icmp .eq 29, 3) := by decide +kernel
theorem d_L_law_745 : decode code 745 = .ok (.iconst 0, 1) := by decide +kernel
theorem d_L_law_746 : decode code 746 = .ok (.ireturn, 1) := by decide +kernel
theorem d_L_law_747 : decode code 747 = .ok (.aload_n 1, 1) := by decide +kernel
theorem d_L_law_748 : decode code 748 = .ok (.aload_n 0, 1) := by decide +kernel
theorem d_L_law_749 : decode code 749 = .ok (.iload_n 3, 1) := by decide +kernel
theorem d_L_law_750 : decode code 750 = .ok (.iconst 1, 1) := by decide +kernel
theorem d_L_law_751 : decode code 751 = .ok (.iadd, 1) := by decide +kernel
theorem d_L_law_752 : decode code 752 = .ok (.iaload, 1) := by decide +kernel
theorem d_L_law_753 : decode code 753 = .ok (.invokevirtual 111, 3) := by decide +kernel
theorem d_L_law_756 : decode code 756 = .ok (.aload_n 2, 1) := by decide +kernel
theorem d_L_law_757 : decode code 757 = .ok (.aload_n 0, 1) := by decide +kernel
theorem d_L_law_758 : decode code 758 = .ok (.iload_n 3, 1) := by decide +kernel
theorem d_L_law_759 : decode code 759 = .ok (.iconst 1, 1) := by decide +kernel
theorem d_L_law_760 : decode code 760 = .ok (.iadd, 1) := by decide +kernel
theorem d_L_law_761 : decode code 761 = .ok (.iaload, 1) := by decide +kernel
theorem d_L_law_762 : decode code 762 = .ok (.invokevirtual 114, 3) := by decide +kernel
theorem d_L_law_765 : decode code 765 = .ok (.lcmp, 1) := by decide +kernel
theorem d_L_law_766 : decode code 766 = .ok (.ifCond .eq 5, 3) := by decide +kernel
theorem d_L_law_769 : decode code 769 = .ok (.iconst 0, 1) := by decide +kernel
theorem d_L_law_770 : decode code 770 = .ok (.ireturn, 1) := by decide +kernel
theorem d_L_law_771 : decode code 771 = .ok (.iinc 3 4, 3) := by decide +kernel
theorem d_L_law_774 : decode code 774 = .ok (.goto (-756), 3) := by decide +kernel
theorem d_L_law_777 : decode code 777 = .ok (.iconst 1, 1) := by decide +kernel
theorem d_L_law_778 : decode code 778 = .ok (.ireturn, 1) := by decide +kernel
