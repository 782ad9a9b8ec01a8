theorem dX12_init_0 : decode cX12_init 0 = .ok (.aload_n 0, 1) := by decide +kernel
theorem dX12_init_1 : decode cX12_init 1 = .ok (.invokespecial 1, 3) := by decide +kernel
theorem dX12_init_4 : decode cX12_init 4 = .ok (.aload_n 0, 1) := by decide +kernel
theorem dX12_init_5 : decode cX12_init 5 = .ok (.bipush 21, 2) := by decide +kernel
theorem dX12_init_7 : decode cX12_init 7 = .ok (.newarray .long, 2) := by decide +kernel
theorem dX12_init_9 : decode cX12_init 9 = .ok (.putfield 7, 3) := by decide +kernel
theorem dX12_init_12 : decode cX12_init 12 = .ok (.aload_n 0, 1) := by decide +kernel
theorem dX12_init_13 : decode cX12_init 13 = .ok (.bipush 18, 2) := by decide +kernel
theorem dX12_init_15 : decode cX12_init 15 = .ok (.newarray .int, 2) := by decide +kernel
theorem dX12_init_17 : decode cX12_init 17 = .ok (.putfield 13, 3) := by decide +kernel
theorem dX12_init_20 : decode cX12_init 20 = .ok (.aload_n 0, 1) := by decide +kernel
theorem dX12_init_21 : decode cX12_init 21 = .ok (.bipush 108, 2) := by decide +kernel
theorem dX12_init_23 : decode cX12_init 23 = .ok (.newarray .int, 2) := by decide +kernel
theorem dX12_init_25 : decode cX12_init 25 = .ok (.putfield 17, 3) := by decide +kernel
theorem dX12_init_28 : decode cX12_init 28 = .ok (.aload_n 0, 1) := by decide +kernel
theorem dX12_init_29 : decode cX12_init 29 = .ok (.bipush 108, 2) := by decide +kernel
theorem dX12_init_31 : decode cX12_init 31 = .ok (.newarray .long, 2) := by decide +kernel
theorem dX12_init_33 : decode cX12_init 33 = .ok (.putfield 20, 3) := by decide +kernel
theorem dX12_init_36 : decode cX12_init 36 = .ok (.aload_n 0, 1) := by decide +kernel
theorem dX12_init_37 : decode cX12_init 37 = .ok (.bipush 6, 2) := by decide +kernel
theorem dX12_init_39 : decode cX12_init 39 = .ok (.newarray .boolean, 2) := by decide +kernel
theorem dX12_init_41 : decode cX12_init 41 = .ok (.putfield 23, 3) := by decide +kernel
theorem dX12_init_44 : decode cX12_init 44 = .ok (.aload_n 0, 1) := by decide +kernel
theorem dX12_init_45 : decode cX12_init 45 = .ok (.sipush 3000, 3) := by decide +kernel
theorem dX12_init_48 : decode cX12_init 48 = .ok (.newarray .boolean, 2) := by decide +kernel
theorem dX12_init_50 : decode cX12_init 50 = .ok (.putfield 27, 3) := by decide +kernel
theorem dX12_init_53 : decode cX12_init 53 = .ok (.aload_n 0, 1) := by decide +kernel
theorem dX12_init_54 : decode cX12_init 54 = .ok (.bipush 20, 2) := by decide +kernel
theorem dX12_init_56 : decode cX12_init 56 = .ok (.newarray .boolean, 2) := by decide +kernel
theorem dX12_init_58 : decode cX12_init 58 = .ok (.putfield 30, 3) := by decide +kernel
theorem dX12_init_61 : decode cX12_init 61 = .ok (.aload_n 0, 1) := by decide +kernel
theorem dX12_init_62 : decode cX12_init 62 = .ok (.bipush 60, 2) := by decide +kernel
theorem dX12_init_64 : decode cX12_init 64 = .ok (.newarray .int, 2) := by decide +kernel
theorem dX12_init_66 : decode cX12_init 66 = .ok (.putfield 33, 3) := by decide +kernel
theorem dX12_init_69 : decode cX12_init 69 = .ok (.aload_n 0, 1) := by decide +kernel
theorem dX12_init_70 : decode cX12_init 70 = .ok (.bipush 60, 2) := by decide +kernel
theorem dX12_init_72 : decode cX12_init 72 = .ok (.newarray .int, 2) := by decide +kernel
theorem dX12_init_74 : decode cX12_init 74 = .ok (.putfield 36, 3) := by decide +kernel
theorem dX12_init_77 : decode cX12_init 77 = .ok (.aload_n 0, 1) := by decide +kernel
theorem dX12_init_78 : decode cX12_init 78 = .ok (.bipush 60, 2) := by decide +kernel
theorem dX12_init_80 : decode cX12_init 80 = .ok (.newarray .int, 2) := by decide +kernel
theorem dX12_init_82 : decode cX12_init 82 = .ok (.putfield 39, 3) := by decide +kernel
theorem dX12_init_85 : decode cX12_init 85 = .ok (.aload_n 0, 1) := by decide +kernel
theorem dX12_init_86 : decode cX12_init 86 = .ok (.bipush 60, 2) := by decide +kernel
theorem dX12_init_88 : decode cX12_init 88 = .ok (.newarray .int, 2) := by decide +kernel
theorem dX12_init_90 : decode cX12_init 90 = .ok (.putfield 42, 3) := by decide +kernel
theorem dX12_init_93 : decode cX12_init 93 = .ok (.aload_n 0, 1) := by decide +kernel
theorem dX12_init_94 : decode cX12_init 94 = .ok (.bipush 60, 2) := by decide +kernel
theorem dX12_init_96 : decode cX12_init 96 = .ok (.newarray .int, 2) := by decide +kernel
theorem dX12_init_98 : decode cX12_init 98 = .ok (.putfield 45, 3) := by decide +kernel
theorem dX12_init_101 : decode cX12_init 101 = .ok (.aload_n 0, 1) := by decide +kernel
theorem dX12_init_102 : decode cX12_init 102 = .ok (.bipush 60, 2) := by decide +kernel
theorem dX12_init_104 : decode cX12_init 104 = .ok (.newarray .int, 2) := by decide +kernel
theorem dX12_init_106 : decode cX12_init 106 = .ok (.putfield 48, 3) := by decide +kernel
theorem dX12_init_109 : decode cX12_init 109 = .ok (.aload_n 0, 1) := by decide +kernel
theorem dX12_init_110 : decode cX12_init 110 = .ok (.bipush 60, 2) := by decide +kernel
theorem dX12_init_112 : decode cX12_init 112 = .ok (.newarray .boolean, 2) := by decide +kernel
theorem dX12_init_114 : decode cX12_init 114 = .ok (.putfield 51, 3) := by decide +kernel
theorem dX12_init_117 : decode cX12_init 117 = .ok (.aload_n 0, 1) := by decide +kernel
theorem dX12_init_118 : decode cX12_init 118 = .ok (.bipush 60, 2) := by decide +kernel
theorem dX12_init_120 : decode cX12_init 120 = .ok (.newarray .int, 2) := by decide +kernel
theorem dX12_init_122 : decode cX12_init 122 = .ok (.putfield 54, 3) := by decide +kernel
theorem dX12_init_125 : decode cX12_init 125 = .ok (.aload_n 0, 1) := by decide +kernel
theorem dX12_init_126 : decode cX12_init 126 = .ok (.bipush 60, 2) := by decide +kernel
theorem dX12_init_128 : decode cX12_init 128 = .ok (.newarray .boolean, 2) := by decide +kernel
theorem dX12_init_130 : decode cX12_init 130 = .ok (.putfield 57, 3) := by decide +kernel
theorem dX12_init_133 : decode cX12_init 133 = .ok (.aload_n 0, 1) := by decide +kernel
theorem dX12_init_134 : decode cX12_init 134 = .ok (.bipush 60, 2) := by decide +kernel
theorem dX12_init_136 : decode cX12_init 136 = .ok (.newarray .int, 2) := by decide +kernel
theorem dX12_init_138 : decode cX12_init 138 = .ok (.putfield 60, 3) := by decide +kernel
theorem dX12_init_141 : decode cX12_init 141 = .ok (.aload_n 0, 1) := by decide +kernel
theorem dX12_init_142 : decode cX12_init 142 = .ok (.bipush 60, 2) := by decide +kernel
theorem dX12_init_144 : decode cX12_init 144 = .ok (.newarray .boolean, 2) := by decide +kernel
theorem dX12_init_146 : decode cX12_init 146 = .ok (.putfield 63, 3) := by decide +kernel
theorem dX12_init_149 : decode cX12_init 149 = .ok (.aload_n 0, 1) := by decide +kernel
theorem dX12_init_150 : decode cX12_init 150 = .ok (.bipush 60, 2) := by decide +kernel
theorem dX12_init_152 : decode cX12_init 152 = .ok (.newarray .int, 2) := by decide +kernel
theorem dX12_init_154 : decode cX12_init 154 = .ok (.putfield 66, 3) := by decide +kernel
theorem dX12_init_157 : decode cX12_init 157 = .ok (.aload_n 0, 1) := by decide +kernel
theorem dX12_init_158 : decode cX12_init 158 = .ok (.bipush 60, 2) := by decide +kernel
theorem dX12_init_160 : decode cX12_init 160 = .ok (.newarray .int, 2) := by decide +kernel
theorem dX12_init_162 : decode cX12_init 162 = .ok (.putfield 69, 3) := by decide +kernel
theorem dX12_init_165 : decode cX12_init 165 = .ok (.aload_n 0, 1) := by decide +kernel
theorem dX12_init_166 : decode cX12_init 166 = .ok (.bipush 60, 2) := by decide +kernel
theorem dX12_init_168 : decode cX12_init 168 = .ok (.newarray .int, 2) := by decide +kernel
theorem dX12_init_170 : decode cX12_init 170 = .ok (.putfield 72, 3) := by decide +kernel
theorem dX12_init_173 : decode cX12_init 173 = .ok (.aload_n 0, 1) := by decide +kernel
theorem dX12_init_174 : decode cX12_init 174 = .ok (.bipush 60, 2) := by decide +kernel
theorem dX12_init_176 : decode cX12_init 176 = .ok (.newarray .int, 2) := by decide +kernel
theorem dX12_init_178 : decode cX12_init 178 = .ok (.putfield 75, 3) := by decide +kernel
theorem dX12_init_181 : decode cX12_init 181 = .ok (.aload_n 0, 1) := by decide +kernel
theorem dX12_init_182 : decode cX12_init 182 = .ok (.bipush 60, 2) := by decide +kernel
theorem dX12_init_184 : decode cX12_init 184 = .ok (.newarray .boolean, 2) := by decide +kernel
theorem dX12_init_186 : decode cX12_init 186 = .ok (.putfield 78, 3) := by decide +kernel
theorem dX12_init_189 : decode cX12_init 189 = .ok (.aload_n 0, 1) := by decide +kernel
theorem dX12_init_190 : decode cX12_init 190 = .ok (.sipush 600, 3) := by decide +kernel
theorem dX12_init_193 : decode cX12_init 193 = .ok (.newarray .int, 2) := by decide +kernel
theorem dX12_init_195 : decode cX12_init 195 = .ok (.putfield 81, 3) := by decide +kernel
theorem dX12_init_198 : decode cX12_init 198 = .ok (.aload_n 0, 1) := by decide +kernel
theorem dX12_init_199 : decode cX12_init 199 = .ok (.bipush 60, 2) := by decide +kernel
theorem dX12_init_201 : decode cX12_init 201 = .ok (.newarray .int, 2) := by decide +kernel
theorem dX12_init_203 : decode cX12_init 203 = .ok (.putfield 84, 3) := by decide +kernel
theorem dX12_init_206 : decode cX12_init 206 = .ok (.aload_n 0, 1) := by decide +kernel
theorem dX12_init_207 : decode cX12_init 207 = .ok (.bipush 6, 2) := by decide +kernel
theorem dX12_init_209 : decode cX12_init 209 = .ok (.newarray .int, 2) := by decide +kernel
theorem dX12_init_211 : decode cX12_init 211 = .ok (.putfield 87, 3) := by decide +kernel
theorem dX12_init_214 : decode cX12_init 214 = .ok (.aload_n 0, 1) := by decide +kernel
theorem dX12_init_215 : decode cX12_init 215 = .ok (.bipush 6, 2) := by decide +kernel
theorem dX12_init_217 : decode cX12_init 217 = .ok (.newarray .int, 2) := by decide +kernel
theorem dX12_init_219 : decode cX12_init 219 = .ok (.putfield 90, 3) := by decide +kernel
theorem dX12_init_222 : decode cX12_init 222 = .ok (.aload_n 0, 1) := by decide +kernel
theorem dX12_init_223 : decode cX12_init 223 = .ok (.ldc 93, 2) := by decide +kernel
theorem dX12_init_225 : decode cX12_init 225 = .ok (.newarray .long, 2) := by decide +kernel
theorem dX12_init_227 : decode cX12_init 227 = .ok (.putfield 94, 3) := by decide +kernel
theorem dX12_init_230 : decode cX12_init 230 = .ok (.aload_n 0, 1) := by decide +kernel
theorem dX12_init_231 : decode cX12_init 231 = .ok (.bipush 60, 2) := by decide +kernel
theorem dX12_init_233 : decode cX12_init 233 = .ok (.newarray .boolean, 2) := by decide +kernel
theorem dX12_init_235 : decode cX12_init 235 = .ok (.putfield 97, 3) := by decide +kernel
theorem dX12_init_238 : decode cX12_init 238 = .ok (.aload_n 0, 1) := by decide +kernel
theorem dX12_init_239 : decode cX12_init 239 = .ok (.bipush 21, 2) := by decide +kernel
theorem dX12_init_241 : decode cX12_init 241 = .ok (.newarray .long, 2) := by decide +kernel
theorem dX12_init_243 : decode cX12_init 243 = .ok (.putfield 100, 3) := by decide +kernel
theorem dX12_init_246 : decode cX12_init 246 = .ok (.aload_n 0, 1) := by decide +kernel
theorem dX12_init_247 : decode cX12_init 247 = .ok (.bipush 108, 2) := by decide +kernel
theorem dX12_init_249 : decode cX12_init 249 = .ok (.newarray .long, 2) := by decide +kernel
theorem dX12_init_251 : decode cX12_init 251 = .ok (.putfield 103, 3) := by decide +kernel
theorem dX12_init_254 : decode cX12_init 254 = .ok (.iconst 0, 1) := by decide +kernel
theorem dX12_init_255 : decode cX12_init 255 = .ok (.istore_n 1, 1) := by decide +kernel
theorem dX12_init_256 : decode cX12_init 256 = .ok (.iload_n 1, 1) := by decide +kernel
theorem dX12_init_257 : decode cX12_init 257 = .ok (.bipush 108, 2) := by decide +kernel
theorem dX12_init_259 : decode cX12_init 259 = .ok (.if_icmp .ge 16, 3) := by decide +kernel
theorem dX12_init_262 : decode cX12_init 262 = .ok (.aload_n 0, 1) := by decide +kernel
theorem dX12_init_263 : decode cX12_init 263 = .ok (.getfield 17, 3) := by decide +kernel
theorem dX12_init_266 : decode cX12_init 266 = .ok (.iload_n 1, 1) := by decide +kernel
theorem dX12_init_267 : decode cX12_init 267 = .ok (.iconst (-1), 1) := by decide +kernel
theorem dX12_init_268 : decode cX12_init 268 = .ok (.iastore, 1) := by decide +kernel
theorem dX12_init_269 : decode cX12_init 269 = .ok (.iinc 1 1, 3) := by decide +kernel
theorem dX12_init_272 : decode cX12_init 272 = .ok (.goto (-16), 3) := by decide +kernel
theorem dX12_init_275 : decode cX12_init 275 = .ok (.iconst 0, 1) := by decide +kernel
theorem dX12_init_276 : decode cX12_init 276 = .ok (.istore_n 1, 1) := by decide +kernel
theorem dX12_init_277 : decode cX12_init 277 = .ok (.iload_n 1, 1) := by decide +kernel
theorem dX12_init_278 : decode cX12_init 278 = .ok (.sipush 600, 3) := by decide +kernel
theorem dX12_init_281 : decode cX12_init 281 = .ok (.if_icmp .ge 16, 3) := by decide +kernel
theorem dX12_init_284 : decode cX12_init 284 = .ok (.aload_n 0, 1) := by decide +kernel
theorem dX12_init_285 : decode cX12_init 285 = .ok (.getfield 81, 3) := by decide +kernel
theorem dX12_init_288 : decode cX12_init 288 = .ok (.iload_n 1, 1) := by decide +kernel
theorem dX12_init_289 : decode cX12_init 289 = .ok (.iconst (-1), 1) := by decide +kernel
theorem dX12_init_290 : decode cX12_init 290 = .ok (.iastore, 1) := by decide +kernel
theorem dX12_init_291 : decode cX12_init 291 = .ok (.iinc 1 1, 3) := by decide +kernel
theorem dX12_init_294 : decode cX12_init 294 = .ok (.goto (-17), 3) := by decide +kernel
theorem dX12_init_297 : decode cX12_init 297 = .ok (.return_, 1) := by decide +kernel
theorem dX12_thrown_0 : decode cX12_thrown 0 = .ok (.aload_n 0, 1) := by decide +kernel
theorem dX12_thrown_1 : decode cX12_thrown 1 = .ok (.getfield 106, 3) := by decide +kernel
theorem dX12_thrown_4 : decode cX12_thrown 4 = .ok (.ireturn, 1) := by decide +kernel
theorem dX12_in_0 : decode cX12_in 0 = .ok (.iload_n 0, 1) := by decide +kernel
theorem dX12_in_1 : decode cX12_in 1 = .ok (.iload_n 1, 1) := by decide +kernel
theorem dX12_in_2 : decode cX12_in 2 = .ok (.if_icmp .lt 12, 3) := by decide +kernel
theorem dX12_in_5 : decode cX12_in 5 = .ok (.iload_n 0, 1) := by decide +kernel
theorem dX12_in_6 : decode cX12_in 6 = .ok (.iload_n 2, 1) := by decide +kernel
theorem dX12_in_7 : decode cX12_in 7 = .ok (.if_icmp .gt 7, 3) := by decide +kernel
theorem dX12_in_10 : decode cX12_in 10 = .ok (.iconst 1, 1) := by decide +kernel
theorem dX12_in_11 : decode cX12_in 11 = .ok (.goto 4, 3) := by decide +kernel
theorem dX12_in_14 : decode cX12_in 14 = .ok (.iconst 0, 1) := by decide +kernel
theorem dX12_in_15 : decode cX12_in 15 = .ok (.ireturn, 1) := by decide +kernel
theorem dX12_goes_0 : decode cX12_goes 0 = .ok (.aload_n 0, 1) := by decide +kernel
theorem dX12_goes_1 : decode cX12_goes 1 = .ok (.iload_n 1, 1) := by decide +kernel
theorem dX12_goes_2 : decode cX12_goes 2 = .ok (.ifCond .ne 7, 3) := by decide +kernel
theorem dX12_goes_5 : decode cX12_goes 5 = .ok (.iconst 1, 1) := by decide +kernel
theorem dX12_goes_6 : decode cX12_goes 6 = .ok (.goto 20, 3) := by decide +kernel
theorem dX12_goes_9 : decode cX12_goes 9 = .ok (.iload_n 2, 1) := by decide +kernel
theorem dX12_goes_10 : decode cX12_goes 10 = .ok (.ifCond .ne 7, 3) := by decide +kernel
theorem dX12_goes_13 : decode cX12_goes 13 = .ok (.iconst 2, 1) := by decide +kernel
theorem dX12_goes_14 : decode cX12_goes 14 = .ok (.goto 12, 3) := by decide +kernel
theorem dX12_goes_17 : decode cX12_goes 17 = .ok (.iload_n 3, 1) := by decide +kernel
theorem dX12_goes_18 : decode cX12_goes 18 = .ok (.ifCond .ne 7, 3) := by decide +kernel
theorem dX12_goes_21 : decode cX12_goes 21 = .ok (.iconst 3, 1) := by decide +kernel
theorem dX12_goes_22 : decode cX12_goes 22 = .ok (.goto 4, 3) := by decide +kernel
theorem dX12_goes_25 : decode cX12_goes 25 = .ok (.iconst 0, 1) := by decide +kernel
theorem dX12_goes_26 : decode cX12_goes 26 = .ok (.putfield 106, 3) := by decide +kernel
theorem dX12_goes_29 : decode cX12_goes 29 = .ok (.aload_n 0, 1) := by decide +kernel
theorem dX12_goes_30 : decode cX12_goes 30 = .ok (.getfield 106, 3) := by decide +kernel
theorem dX12_goes_33 : decode cX12_goes 33 = .ok (.ifCond .ne 7, 3) := by decide +kernel
theorem dX12_goes_36 : decode cX12_goes 36 = .ok (.iconst 1, 1) := by decide +kernel
theorem dX12_goes_37 : decode cX12_goes 37 = .ok (.goto 4, 3) := by decide +kernel
theorem dX12_goes_40 : decode cX12_goes 40 = .ok (.iconst 0, 1) := by decide +kernel
theorem dX12_goes_41 : decode cX12_goes 41 = .ok (.ireturn, 1) := by decide +kernel
theorem dX12_isBank_0 : decode cX12_isBank 0 = .ok (.iload_n 0, 1) := by decide +kernel
theorem dX12_isBank_1 : decode cX12_isBank 1 = .ok (.iconst 0, 1) := by decide +kernel
theorem dX12_isBank_2 : decode cX12_isBank 2 = .ok (.iconst 5, 1) := by decide +kernel
theorem dX12_isBank_3 : decode cX12_isBank 3 = .ok (.invokestatic 110, 3) := by decide +kernel
theorem dX12_isBank_6 : decode cX12_isBank 6 = .ok (.ireturn, 1) := by decide +kernel
theorem dX12_isCurrency_0 : decode cX12_isCurrency 0 = .ok (.iload_n 0, 1) := by decide +kernel
theorem dX12_isCurrency_1 : decode cX12_isCurrency 1 = .ok (.iconst 0, 1) := by decide +kernel
theorem dX12_isCurrency_2 : decode cX12_isCurrency 2 = .ok (.iconst 2, 1) := by decide +kernel
theorem dX12_isCurrency_3 : decode cX12_isCurrency 3 = .ok (.invokestatic 110, 3) := by decide +kernel
theorem dX12_isCurrency_6 : decode cX12_isCurrency 6 = .ok (.ireturn, 1) := by decide +kernel
theorem dX12_isName_0 : decode cX12_isName 0 = .ok (.iload_n 0, 1) := by decide +kernel
theorem dX12_isName_1 : decode cX12_isName 1 = .ok (.iconst 0, 1) := by decide +kernel
theorem dX12_isName_2 : decode cX12_isName 2 = .ok (.bipush 19, 2) := by decide +kernel
theorem dX12_isName_4 : decode cX12_isName 4 = .ok (.invokestatic 110, 3) := by decide +kernel
theorem dX12_isName_7 : decode cX12_isName 7 = .ok (.ireturn, 1) := by decide +kernel
theorem dX12_isPayment_0 : decode cX12_isPayment 0 = .ok (.iload_n 1, 1) := by decide +kernel
theorem dX12_isPayment_1 : decode cX12_isPayment 1 = .ok (.iconst 0, 1) := by decide +kernel
theorem dX12_isPayment_2 : decode cX12_isPayment 2 = .ok (.aload_n 0, 1) := by decide +kernel
theorem dX12_isPayment_3 : decode cX12_isPayment 3 = .ok (.getfield 114, 3) := by decide +kernel
theorem dX12_isPayment_6 : decode cX12_isPayment 6 = .ok (.iconst 1, 1) := by decide +kernel
theorem dX12_isPayment_7 : decode cX12_isPayment 7 = .ok (.isub, 1) := by decide +kernel
theorem dX12_isPayment_8 : decode cX12_isPayment 8 = .ok (.invokestatic 110, 3) := by decide +kernel
theorem dX12_isPayment_11 : decode cX12_isPayment 11 = .ok (.ireturn, 1) := by decide +kernel
theorem dX12_of_0 : decode cX12_of 0 = .ok (.iconst 3, 1) := by decide +kernel
theorem dX12_of_1 : decode cX12_of 1 = .ok (.iload_n 0, 1) := by decide +kernel
theorem dX12_of_2 : decode cX12_of 2 = .ok (.imul, 1) := by decide +kernel
theorem dX12_of_3 : decode cX12_of 3 = .ok (.iload_n 1, 1) := by decide +kernel
theorem dX12_of_4 : decode cX12_of 4 = .ok (.iadd, 1) := by decide +kernel
theorem dX12_of_5 : decode cX12_of 5 = .ok (.ireturn, 1) := by decide +kernel
theorem dX12_pair_0 : decode cX12_pair 0 = .ok (.iconst 3, 1) := by decide +kernel
theorem dX12_pair_1 : decode cX12_pair 1 = .ok (.bipush 6, 2) := by decide +kernel
theorem dX12_pair_3 : decode cX12_pair 3 = .ok (.iload_n 0, 1) := by decide +kernel
theorem dX12_pair_4 : decode cX12_pair 4 = .ok (.imul, 1) := by decide +kernel
theorem dX12_pair_5 : decode cX12_pair 5 = .ok (.iload_n 1, 1) := by decide +kernel
theorem dX12_pair_6 : decode cX12_pair 6 = .ok (.iadd, 1) := by decide +kernel
theorem dX12_pair_7 : decode cX12_pair 7 = .ok (.imul, 1) := by decide +kernel
theorem dX12_pair_8 : decode cX12_pair 8 = .ok (.iload_n 2, 1) := by decide +kernel
theorem dX12_pair_9 : decode cX12_pair 9 = .ok (.iadd, 1) := by decide +kernel
theorem dX12_pair_10 : decode cX12_pair 10 = .ok (.ireturn, 1) := by decide +kernel
theorem dX12_isOpen_0 : decode cX12_isOpen 0 = .ok (.iload_n 2, 1) := by decide +kernel
theorem dX12_isOpen_1 : decode cX12_isOpen 1 = .ok (.bipush 7, 2) := by decide +kernel
theorem dX12_isOpen_3 : decode cX12_isOpen 3 = .ok (.irem, 1) := by decide +kernel
theorem dX12_isOpen_4 : decode cX12_isOpen 4 = .ok (.iconst 5, 1) := by decide +kernel
theorem dX12_isOpen_5 : decode cX12_isOpen 5 = .ok (.if_icmp .ge 22, 3) := by decide +kernel
theorem dX12_isOpen_8 : decode cX12_isOpen 8 = .ok (.aload_n 0, 1) := by decide +kernel
theorem dX12_isOpen_9 : decode cX12_isOpen 9 = .ok (.getfield 27, 3) := by decide +kernel
theorem dX12_isOpen_12 : decode cX12_isOpen 12 = .ok (.sipush 1000, 3) := by decide +kernel
theorem dX12_isOpen_15 : decode cX12_isOpen 15 = .ok (.iload_n 1, 1) := by decide +kernel
theorem dX12_isOpen_16 : decode cX12_isOpen 16 = .ok (.imul, 1) := by decide +kernel
theorem dX12_isOpen_17 : decode cX12_isOpen 17 = .ok (.iload_n 2, 1) := by decide +kernel
theorem dX12_isOpen_18 : decode cX12_isOpen 18 = .ok (.iadd, 1) := by decide +kernel
theorem dX12_isOpen_19 : decode cX12_isOpen 19 = .ok (.baload, 1) := by decide +kernel
theorem dX12_isOpen_20 : decode cX12_isOpen 20 = .ok (.ifCond .ne 7, 3) := by decide +kernel
theorem dX12_isOpen_23 : decode cX12_isOpen 23 = .ok (.iconst 1, 1) := by decide +kernel
theorem dX12_isOpen_24 : decode cX12_isOpen 24 = .ok (.goto 4, 3) := by decide +kernel
theorem dX12_isOpen_27 : decode cX12_isOpen 27 = .ok (.iconst 0, 1) := by decide +kernel
theorem dX12_isOpen_28 : decode cX12_isOpen 28 = .ok (.ireturn, 1) := by decide +kernel
theorem dX12_ends_0 : decode cX12_ends 0 = .ok (.aload_n 0, 1) := by decide +kernel
theorem dX12_ends_1 : decode cX12_ends 1 = .ok (.getfield 60, 3) := by decide +kernel
theorem dX12_ends_4 : decode cX12_ends 4 = .ok (.iload_n 1, 1) := by decide +kernel
theorem dX12_ends_5 : decode cX12_ends 5 = .ok (.iaload, 1) := by decide +kernel
theorem dX12_ends_6 : decode cX12_ends 6 = .ok (.iconst 4, 1) := by decide +kernel
theorem dX12_ends_7 : decode cX12_ends 7 = .ok (.if_icmp .eq 13, 3) := by decide +kernel
theorem dX12_ends_10 : decode cX12_ends 10 = .ok (.aload_n 0, 1) := by decide +kernel
theorem dX12_ends_11 : decode cX12_ends 11 = .ok (.getfield 60, 3) := by decide +kernel
theorem dX12_ends_14 : decode cX12_ends 14 = .ok (.iload_n 1, 1) := by decide +kernel
theorem dX12_ends_15 : decode cX12_ends 15 = .ok (.iaload, 1) := by decide +kernel
theorem dX12_ends_16 : decode cX12_ends 16 = .ok (.iconst 5, 1) := by decide +kernel
theorem dX12_ends_17 : decode cX12_ends 17 = .ok (.if_icmp .ne 7, 3) := by decide +kernel
theorem dX12_ends_20 : decode cX12_ends 20 = .ok (.iconst 1, 1) := by decide +kernel
theorem dX12_ends_21 : decode cX12_ends 21 = .ok (.goto 4, 3) := by decide +kernel
theorem dX12_ends_24 : decode cX12_ends 24 = .ok (.iconst 0, 1) := by decide +kernel
theorem dX12_ends_25 : decode cX12_ends 25 = .ok (.ireturn, 1) := by decide +kernel
theorem dX12_books_0 : decode cX12_books 0 = .ok (.aload_n 0, 1) := by decide +kernel
theorem dX12_books_1 : decode cX12_books 1 = .ok (.getfield 94, 3) := by decide +kernel
theorem dX12_books_4 : decode cX12_books 4 = .ok (.iconst 5, 1) := by decide +kernel
theorem dX12_books_5 : decode cX12_books 5 = .ok (.aload_n 0, 1) := by decide +kernel
theorem dX12_books_6 : decode cX12_books 6 = .ok (.getfield 117, 3) := by decide +kernel
theorem dX12_books_9 : decode cX12_books 9 = .ok (.imul, 1) := by decide +kernel
theorem dX12_books_10 : decode cX12_books 10 = .ok (.iload_n 1, 1) := by decide +kernel
theorem dX12_books_11 : decode cX12_books 11 = .ok (.i2l, 1) := by decide +kernel
theorem dX12_books_12 : decode cX12_books 12 = .ok (.lastore, 1) := by decide +kernel
theorem dX12_books_13 : decode cX12_books 13 = .ok (.aload_n 0, 1) := by decide +kernel
theorem dX12_books_14 : decode cX12_books 14 = .ok (.getfield 94, 3) := by decide +kernel
theorem dX12_books_17 : decode cX12_books 17 = .ok (.iconst 5, 1) := by decide +kernel
theorem dX12_books_18 : decode cX12_books 18 = .ok (.aload_n 0, 1) := by decide +kernel
theorem dX12_books_19 : decode cX12_books 19 = .ok (.getfield 117, 3) := by decide +kernel
theorem dX12_books_22 : decode cX12_books 22 = .ok (.imul, 1) := by decide +kernel
theorem dX12_books_23 : decode cX12_books 23 = .ok (.iconst 1, 1) := by decide +kernel
theorem dX12_books_24 : decode cX12_books 24 = .ok (.iadd, 1) := by decide +kernel
theorem dX12_books_25 : decode cX12_books 25 = .ok (.iload_n 2, 1) := by decide +kernel
theorem dX12_books_26 : decode cX12_books 26 = .ok (.i2l, 1) := by decide +kernel
theorem dX12_books_27 : decode cX12_books 27 = .ok (.lastore, 1) := by decide +kernel
theorem dX12_books_28 : decode cX12_books 28 = .ok (.aload_n 0, 1) := by decide +kernel
theorem dX12_books_29 : decode cX12_books 29 = .ok (.getfield 94, 3) := by decide +kernel
theorem dX12_books_32 : decode cX12_books 32 = .ok (.iconst 5, 1) := by decide +kernel
theorem dX12_books_33 : decode cX12_books 33 = .ok (.aload_n 0, 1) := by decide +kernel
theorem dX12_books_34 : decode cX12_books 34 = .ok (.getfield 117, 3) := by decide +kernel
theorem dX12_books_37 : decode cX12_books 37 = .ok (.imul, 1) := by decide +kernel
theorem dX12_books_38 : decode cX12_books 38 = .ok (.iconst 2, 1) := by decide +kernel
theorem dX12_books_39 : decode cX12_books 39 = .ok (.iadd, 1) := by decide +kernel
theorem dX12_books_40 : decode cX12_books 40 = .ok (.iload_n 3, 1) := by decide +kernel
theorem dX12_books_41 : decode cX12_books 41 = .ok (.i2l, 1) := by decide +kernel
theorem dX12_books_42 : decode cX12_books 42 = .ok (.lastore, 1) := by decide +kernel
theorem dX12_books_43 : decode cX12_books 43 = .ok (.aload_n 0, 1) := by decide +kernel
theorem dX12_books_44 : decode cX12_books 44 = .ok (.getfield 94, 3) := by decide +kernel
theorem dX12_books_47 : decode cX12_books 47 = .ok (.iconst 5, 1) := by decide +kernel
theorem dX12_books_48 : decode cX12_books 48 = .ok (.aload_n 0, 1) := by decide +kernel
theorem dX12_books_49 : decode cX12_books 49 = .ok (.getfield 117, 3) := by decide +kernel
theorem dX12_books_52 : decode cX12_books 52 = .ok (.imul, 1) := by decide +kernel
theorem dX12_books_53 : decode cX12_books 53 = .ok (.iconst 3, 1) := by decide +kernel
theorem dX12_books_54 : decode cX12_books 54 = .ok (.iadd, 1) := by decide +kernel
theorem dX12_books_55 : decode cX12_books 55 = .ok (.lload 4, 2) := by decide +kernel
theorem dX12_books_57 : decode cX12_books 57 = .ok (.lastore, 1) := by decide +kernel
theorem dX12_books_58 : decode cX12_books 58 = .ok (.aload_n 0, 1) := by decide +kernel
theorem dX12_books_59 : decode cX12_books 59 = .ok (.getfield 94, 3) := by decide +kernel
theorem dX12_books_62 : decode cX12_books 62 = .ok (.iconst 5, 1) := by decide +kernel
theorem dX12_books_63 : decode cX12_books 63 = .ok (.aload_n 0, 1) := by decide +kernel
theorem dX12_books_64 : decode cX12_books 64 = .ok (.getfield 117, 3) := by decide +kernel
theorem dX12_books_67 : decode cX12_books 67 = .ok (.imul, 1) := by decide +kernel
theorem dX12_books_68 : decode cX12_books 68 = .ok (.iconst 4, 1) := by decide +kernel
theorem dX12_books_69 : decode cX12_books 69 = .ok (.iadd, 1) := by decide +kernel
theorem dX12_books_70 : decode cX12_books 70 = .ok (.iload 6, 2) := by decide +kernel
theorem dX12_books_72 : decode cX12_books 72 = .ok (.i2l, 1) := by decide +kernel
theorem dX12_books_73 : decode cX12_books 73 = .ok (.lastore, 1) := by decide +kernel
theorem dX12_books_74 : decode cX12_books 74 = .ok (.aload_n 0, 1) := by decide +kernel
theorem dX12_books_75 : decode cX12_books 75 = .ok (.dup, 1) := by decide +kernel
theorem dX12_books_76 : decode cX12_books 76 = .ok (.getfield 117, 3) := by decide +kernel
theorem dX12_books_79 : decode cX12_books 79 = .ok (.iconst 1, 1) := by decide +kernel
theorem dX12_books_80 : decode cX12_books 80 = .ok (.iadd, 1) := by decide +kernel
theorem dX12_books_81 : decode cX12_books 81 = .ok (.putfield 117, 3) := by decide +kernel
theorem dX12_books_84 : decode cX12_books 84 = .ok (.iload_n 1, 1) := by decide +kernel
theorem dX12_books_85 : decode cX12_books 85 = .ok (.iconst (-1), 1) := by decide +kernel
theorem dX12_books_86 : decode cX12_books 86 = .ok (.if_icmp .eq 18, 3) := by decide +kernel
theorem dX12_books_89 : decode cX12_books 89 = .ok (.aload_n 0, 1) := by decide +kernel
theorem dX12_books_90 : decode cX12_books 90 = .ok (.getfield 7, 3) := by decide +kernel
theorem dX12_books_93 : decode cX12_books 93 = .ok (.iload_n 1, 1) := by decide +kernel
theorem dX12_books_94 : decode cX12_books 94 = .ok (.iload_n 3, 1) := by decide +kernel
theorem dX12_books_95 : decode cX12_books 95 = .ok (.invokestatic 120, 3) := by decide +kernel
theorem dX12_books_98 : decode cX12_books 98 = .ok (.dup2, 1) := by decide +kernel
theorem dX12_books_99 : decode cX12_books 99 = .ok (.laload, 1) := by decide +kernel
theorem dX12_books_100 : decode cX12_books 100 = .ok (.lload 4, 2) := by decide +kernel
theorem dX12_books_102 : decode cX12_books 102 = .ok (.lsub, 1) := by decide +kernel
theorem dX12_books_103 : decode cX12_books 103 = .ok (.lastore, 1) := by decide +kernel
theorem dX12_books_104 : decode cX12_books 104 = .ok (.aload_n 0, 1) := by decide +kernel
theorem dX12_books_105 : decode cX12_books 105 = .ok (.getfield 7, 3) := by decide +kernel
theorem dX12_books_108 : decode cX12_books 108 = .ok (.iload_n 2, 1) := by decide +kernel
theorem dX12_books_109 : decode cX12_books 109 = .ok (.iload_n 3, 1) := by decide +kernel
theorem dX12_books_110 : decode cX12_books 110 = .ok (.invokestatic 120, 3) := by decide +kernel
theorem dX12_books_113 : decode cX12_books 113 = .ok (.dup2, 1) := by decide +kernel
theorem dX12_books_114 : decode cX12_books 114 = .ok (.laload, 1) := by decide +kernel
theorem dX12_books_115 : decode cX12_books 115 = .ok (.lload 4, 2) := by decide +kernel
theorem dX12_books_117 : decode cX12_books 117 = .ok (.ladd, 1) := by decide +kernel
theorem dX12_books_118 : decode cX12_books 118 = .ok (.lastore, 1) := by decide +kernel
theorem dX12_books_119 : decode cX12_books 119 = .ok (.return_, 1) := by decide +kernel
theorem dX12_clears_0 : decode cX12_clears 0 = .ok (.iconst 0, 1) := by decide +kernel
theorem dX12_clears_1 : decode cX12_clears 1 = .ok (.istore_n 1, 1) := by decide +kernel
theorem dX12_clears_2 : decode cX12_clears 2 = .ok (.iload_n 1, 1) := by decide +kernel
theorem dX12_clears_3 : decode cX12_clears 3 = .ok (.bipush 60, 2) := by decide +kernel
theorem dX12_clears_5 : decode cX12_clears 5 = .ok (.if_icmp .ge 16, 3) := by decide +kernel
theorem dX12_clears_8 : decode cX12_clears 8 = .ok (.aload_n 0, 1) := by decide +kernel
theorem dX12_clears_9 : decode cX12_clears 9 = .ok (.getfield 97, 3) := by decide +kernel
theorem dX12_clears_12 : decode cX12_clears 12 = .ok (.iload_n 1, 1) := by decide +kernel
theorem dX12_clears_13 : decode cX12_clears 13 = .ok (.iconst 0, 1) := by decide +kernel
theorem dX12_clears_14 : decode cX12_clears 14 = .ok (.bastore, 1) := by decide +kernel
theorem dX12_clears_15 : decode cX12_clears 15 = .ok (.iinc 1 1, 3) := by decide +kernel
theorem dX12_clears_18 : decode cX12_clears 18 = .ok (.goto (-16), 3) := by decide +kernel
theorem dX12_clears_21 : decode cX12_clears 21 = .ok (.return_, 1) := by decide +kernel
theorem dX12_sums_0 : decode cX12_sums 0 = .ok (.iconst 0, 1) := by decide +kernel
theorem dX12_sums_1 : decode cX12_sums 1 = .ok (.istore_n 1, 1) := by decide +kernel
theorem dX12_sums_2 : decode cX12_sums 2 = .ok (.iload_n 1, 1) := by decide +kernel
theorem dX12_sums_3 : decode cX12_sums 3 = .ok (.bipush 21, 2) := by decide +kernel
theorem dX12_sums_5 : decode cX12_sums 5 = .ok (.if_icmp .ge 16, 3) := by decide +kernel
theorem dX12_sums_8 : decode cX12_sums 8 = .ok (.aload_n 0, 1) := by decide +kernel
theorem dX12_sums_9 : decode cX12_sums 9 = .ok (.getfield 100, 3) := by decide +kernel
theorem dX12_sums_12 : decode cX12_sums 12 = .ok (.iload_n 1, 1) := by decide +kernel
theorem dX12_sums_13 : decode cX12_sums 13 = .ok (.lconst 0, 1) := by decide +kernel
theorem dX12_sums_14 : decode cX12_sums 14 = .ok (.lastore, 1) := by decide +kernel
theorem dX12_sums_15 : decode cX12_sums 15 = .ok (.iinc 1 1, 3) := by decide +kernel
theorem dX12_sums_18 : decode cX12_sums 18 = .ok (.goto (-16), 3) := by decide +kernel
theorem dX12_sums_21 : decode cX12_sums 21 = .ok (.iconst 0, 1) := by decide +kernel
theorem dX12_sums_22 : decode cX12_sums 22 = .ok (.istore_n 1, 1) := by decide +kernel
theorem dX12_sums_23 : decode cX12_sums 23 = .ok (.iload_n 1, 1) := by decide +kernel
theorem dX12_sums_24 : decode cX12_sums 24 = .ok (.bipush 108, 2) := by decide +kernel
theorem dX12_sums_26 : decode cX12_sums 26 = .ok (.if_icmp .ge 16, 3) := by decide +kernel
theorem dX12_sums_29 : decode cX12_sums 29 = .ok (.aload_n 0, 1) := by decide +kernel
theorem dX12_sums_30 : decode cX12_sums 30 = .ok (.getfield 103, 3) := by decide +kernel
theorem dX12_sums_33 : decode cX12_sums 33 = .ok (.iload_n 1, 1) := by decide +kernel
theorem dX12_sums_34 : decode cX12_sums 34 = .ok (.lconst 0, 1) := by decide +kernel
theorem dX12_sums_35 : decode cX12_sums 35 = .ok (.lastore, 1) := by decide +kernel
theorem dX12_sums_36 : decode cX12_sums 36 = .ok (.iinc 1 1, 3) := by decide +kernel
theorem dX12_sums_39 : decode cX12_sums 39 = .ok (.goto (-16), 3) := by decide +kernel
theorem dX12_sums_42 : decode cX12_sums 42 = .ok (.iconst 0, 1) := by decide +kernel
theorem dX12_sums_43 : decode cX12_sums 43 = .ok (.istore_n 1, 1) := by decide +kernel
theorem dX12_sums_44 : decode cX12_sums 44 = .ok (.iload_n 1, 1) := by decide +kernel
theorem dX12_sums_45 : decode cX12_sums 45 = .ok (.aload_n 0, 1) := by decide +kernel
theorem dX12_sums_46 : decode cX12_sums 46 = .ok (.getfield 114, 3) := by decide +kernel
theorem dX12_sums_49 : decode cX12_sums 49 = .ok (.if_icmp .ge 150, 3) := by decide +kernel
theorem dX12_sums_52 : decode cX12_sums 52 = .ok (.aload_n 0, 1) := by decide +kernel
theorem dX12_sums_53 : decode cX12_sums 53 = .ok (.getfield 97, 3) := by decide +kernel
theorem dX12_sums_56 : decode cX12_sums 56 = .ok (.iload_n 1, 1) := by decide +kernel
theorem dX12_sums_57 : decode cX12_sums 57 = .ok (.baload, 1) := by decide +kernel
theorem dX12_sums_58 : decode cX12_sums 58 = .ok (.ifCond .eq 135, 3) := by decide +kernel
theorem dX12_sums_61 : decode cX12_sums 61 = .ok (.aload_n 0, 1) := by decide +kernel
theorem dX12_sums_62 : decode cX12_sums 62 = .ok (.getfield 100, 3) := by decide +kernel
theorem dX12_sums_65 : decode cX12_sums 65 = .ok (.aload_n 0, 1) := by decide +kernel
theorem dX12_sums_66 : decode cX12_sums 66 = .ok (.getfield 33, 3) := by decide +kernel
theorem dX12_sums_69 : decode cX12_sums 69 = .ok (.iload_n 1, 1) := by decide +kernel
theorem dX12_sums_70 : decode cX12_sums 70 = .ok (.iaload, 1) := by decide +kernel
theorem dX12_sums_71 : decode cX12_sums 71 = .ok (.aload_n 0, 1) := by decide +kernel
theorem dX12_sums_72 : decode cX12_sums 72 = .ok (.getfield 39, 3) := by decide +kernel
theorem dX12_sums_75 : decode cX12_sums 75 = .ok (.iload_n 1, 1) := by decide +kernel
theorem dX12_sums_76 : decode cX12_sums 76 = .ok (.iaload, 1) := by decide +kernel
theorem dX12_sums_77 : decode cX12_sums 77 = .ok (.invokestatic 120, 3) := by decide +kernel
theorem dX12_sums_80 : decode cX12_sums 80 = .ok (.dup2, 1) := by decide +kernel
theorem dX12_sums_81 : decode cX12_sums 81 = .ok (.laload, 1) := by decide +kernel
theorem dX12_sums_82 : decode cX12_sums 82 = .ok (.aload_n 0, 1) := by decide +kernel
theorem dX12_sums_83 : decode cX12_sums 83 = .ok (.getfield 42, 3) := by decide +kernel
theorem dX12_sums_86 : decode cX12_sums 86 = .ok (.iload_n 1, 1) := by decide +kernel
theorem dX12_sums_87 : decode cX12_sums 87 = .ok (.iaload, 1) := by decide +kernel
theorem dX12_sums_88 : decode cX12_sums 88 = .ok (.i2l, 1) := by decide +kernel
theorem dX12_sums_89 : decode cX12_sums 89 = .ok (.lsub, 1) := by decide +kernel
theorem dX12_sums_90 : decode cX12_sums 90 = .ok (.lastore, 1) := by decide +kernel
theorem dX12_sums_91 : decode cX12_sums 91 = .ok (.aload_n 0, 1) := by decide +kernel
theorem dX12_sums_92 : decode cX12_sums 92 = .ok (.getfield 100, 3) := by decide +kernel
theorem dX12_sums_95 : decode cX12_sums 95 = .ok (.aload_n 0, 1) := by decide +kernel
theorem dX12_sums_96 : decode cX12_sums 96 = .ok (.getfield 36, 3) := by decide +kernel
theorem dX12_sums_99 : decode cX12_sums 99 = .ok (.iload_n 1, 1) := by decide +kernel
theorem dX12_sums_100 : decode cX12_sums 100 = .ok (.iaload, 1) := by decide +kernel
theorem dX12_sums_101 : decode cX12_sums 101 = .ok (.aload_n 0, 1) := by decide +kernel
theorem dX12_sums_102 : decode cX12_sums 102 = .ok (.getfield 39, 3) := by decide +kernel
theorem dX12_sums_105 : decode cX12_sums 105 = .ok (.iload_n 1, 1) := by decide +kernel
theorem dX12_sums_106 : decode cX12_sums 106 = .ok (.iaload, 1) := by decide +kernel
theorem dX12_sums_107 : decode cX12_sums 107 = .ok (.invokestatic 120, 3) := by decide +kernel
theorem dX12_sums_110 : decode cX12_sums 110 = .ok (.dup2, 1) := by decide +kernel
theorem dX12_sums_111 : decode cX12_sums 111 = .ok (.laload, 1) := by decide +kernel
theorem dX12_sums_112 : decode cX12_sums 112 = .ok (.aload_n 0, 1) := by decide +kernel
theorem dX12_sums_113 : decode cX12_sums 113 = .ok (.getfield 42, 3) := by decide +kernel
theorem dX12_sums_116 : decode cX12_sums 116 = .ok (.iload_n 1, 1) := by decide +kernel
theorem dX12_sums_117 : decode cX12_sums 117 = .ok (.iaload, 1) := by decide +kernel
theorem dX12_sums_118 : decode cX12_sums 118 = .ok (.i2l, 1) := by decide +kernel
theorem dX12_sums_119 : decode cX12_sums 119 = .ok (.ladd, 1) := by decide +kernel
theorem dX12_sums_120 : decode cX12_sums 120 = .ok (.lastore, 1) := by decide +kernel
theorem dX12_sums_121 : decode cX12_sums 121 = .ok (.aload_n 0, 1) := by decide +kernel
theorem dX12_sums_122 : decode cX12_sums 122 = .ok (.getfield 103, 3) := by decide +kernel
theorem dX12_sums_125 : decode cX12_sums 125 = .ok (.aload_n 0, 1) := by decide +kernel
theorem dX12_sums_126 : decode cX12_sums 126 = .ok (.getfield 33, 3) := by decide +kernel
theorem dX12_sums_129 : decode cX12_sums 129 = .ok (.iload_n 1, 1) := by decide +kernel
theorem dX12_sums_130 : decode cX12_sums 130 = .ok (.iaload, 1) := by decide +kernel
theorem dX12_sums_131 : decode cX12_sums 131 = .ok (.aload_n 0, 1) := by decide +kernel
theorem dX12_sums_132 : decode cX12_sums 132 = .ok (.getfield 36, 3) := by decide +kernel
theorem dX12_sums_135 : decode cX12_sums 135 = .ok (.iload_n 1, 1) := by decide +kernel
theorem dX12_sums_136 : decode cX12_sums 136 = .ok (.iaload, 1) := by decide +kernel
theorem dX12_sums_137 : decode cX12_sums 137 = .ok (.aload_n 0, 1) := by decide +kernel
theorem dX12_sums_138 : decode cX12_sums 138 = .ok (.getfield 39, 3) := by decide +kernel
theorem dX12_sums_141 : decode cX12_sums 141 = .ok (.iload_n 1, 1) := by decide +kernel
theorem dX12_sums_142 : decode cX12_sums 142 = .ok (.iaload, 1) := by decide +kernel
theorem dX12_sums_143 : decode cX12_sums 143 = .ok (.invokestatic 124, 3) := by decide +kernel
theorem dX12_sums_146 : decode cX12_sums 146 = .ok (.dup2, 1) := by decide +kernel
theorem dX12_sums_147 : decode cX12_sums 147 = .ok (.laload, 1) := by decide +kernel
theorem dX12_sums_148 : decode cX12_sums 148 = .ok (.aload_n 0, 1) := by decide +kernel
theorem dX12_sums_149 : decode cX12_sums 149 = .ok (.getfield 42, 3) := by decide +kernel
theorem dX12_sums_152 : decode cX12_sums 152 = .ok (.iload_n 1, 1) := by decide +kernel
theorem dX12_sums_153 : decode cX12_sums 153 = .ok (.iaload, 1) := by decide +kernel
theorem dX12_sums_154 : decode cX12_sums 154 = .ok (.i2l, 1) := by decide +kernel
theorem dX12_sums_155 : decode cX12_sums 155 = .ok (.ladd, 1) := by decide +kernel
theorem dX12_sums_156 : decode cX12_sums 156 = .ok (.lastore, 1) := by decide +kernel
theorem dX12_sums_157 : decode cX12_sums 157 = .ok (.aload_n 0, 1) := by decide +kernel
theorem dX12_sums_158 : decode cX12_sums 158 = .ok (.getfield 103, 3) := by decide +kernel
theorem dX12_sums_161 : decode cX12_sums 161 = .ok (.aload_n 0, 1) := by decide +kernel
theorem dX12_sums_162 : decode cX12_sums 162 = .ok (.getfield 36, 3) := by decide +kernel
theorem dX12_sums_165 : decode cX12_sums 165 = .ok (.iload_n 1, 1) := by decide +kernel
theorem dX12_sums_166 : decode cX12_sums 166 = .ok (.iaload, 1) := by decide +kernel
theorem dX12_sums_167 : decode cX12_sums 167 = .ok (.aload_n 0, 1) := by decide +kernel
theorem dX12_sums_168 : decode cX12_sums 168 = .ok (.getfield 33, 3) := by decide +kernel
theorem dX12_sums_171 : decode cX12_sums 171 = .ok (.iload_n 1, 1) := by decide +kernel
theorem dX12_sums_172 : decode cX12_sums 172 = .ok (.iaload, 1) := by decide +kernel
theorem dX12_sums_173 : decode cX12_sums 173 = .ok (.aload_n 0, 1) := by decide +kernel
theorem dX12_sums_174 : decode cX12_sums 174 = .ok (.getfield 39, 3) := by decide +kernel
theorem dX12_sums_177 : decode cX12_sums 177 = .ok (.iload_n 1, 1) := by decide +kernel
theorem dX12_sums_178 : decode cX12_sums 178 = .ok (.iaload, 1) := by decide +kernel
theorem dX12_sums_179 : decode cX12_sums 179 = .ok (.invokestatic 124, 3) := by decide +kernel
theorem dX12_sums_182 : decode cX12_sums 182 = .ok (.dup2, 1) := by decide +kernel
theorem dX12_sums_183 : decode cX12_sums 183 = .ok (.laload, 1) := by decide +kernel
theorem dX12_sums_184 : decode cX12_sums 184 = .ok (.aload_n 0, 1) := by decide +kernel
theorem dX12_sums_185 : decode cX12_sums 185 = .ok (.getfield 42, 3) := by decide +kernel
theorem dX12_sums_188 : decode cX12_sums 188 = .ok (.iload_n 1, 1) := by decide +kernel
theorem dX12_sums_189 : decode cX12_sums 189 = .ok (.iaload, 1) := by decide +kernel
theorem dX12_sums_190 : decode cX12_sums 190 = .ok (.i2l, 1) := by decide +kernel
theorem dX12_sums_191 : decode cX12_sums 191 = .ok (.lsub, 1) := by decide +kernel
theorem dX12_sums_192 : decode cX12_sums 192 = .ok (.lastore, 1) := by decide +kernel
theorem dX12_sums_193 : decode cX12_sums 193 = .ok (.iinc 1 1, 3) := by decide +kernel
theorem dX12_sums_196 : decode cX12_sums 196 = .ok (.goto (-152), 3) := by decide +kernel
theorem dX12_sums_199 : decode cX12_sums 199 = .ok (.return_, 1) := by decide +kernel
theorem dX12_isShort_0 : decode cX12_isShort 0 = .ok (.iload_n 1, 1) := by decide +kernel
theorem dX12_isShort_1 : decode cX12_isShort 1 = .ok (.iload_n 2, 1) := by decide +kernel
theorem dX12_isShort_2 : decode cX12_isShort 2 = .ok (.invokestatic 120, 3) := by decide +kernel
theorem dX12_isShort_5 : decode cX12_isShort 5 = .ok (.istore_n 3, 1) := by decide +kernel
theorem dX12_isShort_6 : decode cX12_isShort 6 = .ok (.aload_n 0, 1) := by decide +kernel
theorem dX12_isShort_7 : decode cX12_isShort 7 = .ok (.getfield 100, 3) := by decide +kernel
theorem dX12_isShort_10 : decode cX12_isShort 10 = .ok (.iload_n 3, 1) := by decide +kernel
theorem dX12_isShort_11 : decode cX12_isShort 11 = .ok (.laload, 1) := by decide +kernel
theorem dX12_isShort_12 : decode cX12_isShort 12 = .ok (.lconst 0, 1) := by decide +kernel
theorem dX12_isShort_13 : decode cX12_isShort 13 = .ok (.lcmp, 1) := by decide +kernel
theorem dX12_isShort_14 : decode cX12_isShort 14 = .ok (.ifCond .ge 32, 3) := by decide +kernel
theorem dX12_isShort_17 : decode cX12_isShort 17 = .ok (.aload_n 0, 1) := by decide +kernel
theorem dX12_isShort_18 : decode cX12_isShort 18 = .ok (.getfield 7, 3) := by decide +kernel
theorem dX12_isShort_21 : decode cX12_isShort 21 = .ok (.iload_n 3, 1) := by decide +kernel
theorem dX12_isShort_22 : decode cX12_isShort 22 = .ok (.laload, 1) := by decide +kernel
theorem dX12_isShort_23 : decode cX12_isShort 23 = .ok (.aload_n 0, 1) := by decide +kernel
theorem dX12_isShort_24 : decode cX12_isShort 24 = .ok (.getfield 100, 3) := by decide +kernel
theorem dX12_isShort_27 : decode cX12_isShort 27 = .ok (.iload_n 3, 1) := by decide +kernel
theorem dX12_isShort_28 : decode cX12_isShort 28 = .ok (.laload, 1) := by decide +kernel
theorem dX12_isShort_29 : decode cX12_isShort 29 = .ok (.ladd, 1) := by decide +kernel
theorem dX12_isShort_30 : decode cX12_isShort 30 = .ok (.aload_n 0, 1) := by decide +kernel
theorem dX12_isShort_31 : decode cX12_isShort 31 = .ok (.getfield 13, 3) := by decide +kernel
theorem dX12_isShort_34 : decode cX12_isShort 34 = .ok (.iload_n 3, 1) := by decide +kernel
theorem dX12_isShort_35 : decode cX12_isShort 35 = .ok (.iaload, 1) := by decide +kernel
theorem dX12_isShort_36 : decode cX12_isShort 36 = .ok (.ineg, 1) := by decide +kernel
theorem dX12_isShort_37 : decode cX12_isShort 37 = .ok (.i2l, 1) := by decide +kernel
theorem dX12_isShort_38 : decode cX12_isShort 38 = .ok (.lcmp, 1) := by decide +kernel
theorem dX12_isShort_39 : decode cX12_isShort 39 = .ok (.ifCond .ge 7, 3) := by decide +kernel
theorem dX12_isShort_42 : decode cX12_isShort 42 = .ok (.iconst 1, 1) := by decide +kernel
theorem dX12_isShort_43 : decode cX12_isShort 43 = .ok (.goto 4, 3) := by decide +kernel
theorem dX12_isShort_46 : decode cX12_isShort 46 = .ok (.iconst 0, 1) := by decide +kernel
theorem dX12_isShort_47 : decode cX12_isShort 47 = .ok (.ireturn, 1) := by decide +kernel
theorem dX12_isPassed_0 : decode cX12_isPassed 0 = .ok (.iload_n 1, 1) := by decide +kernel
theorem dX12_isPassed_1 : decode cX12_isPassed 1 = .ok (.iload_n 2, 1) := by decide +kernel
theorem dX12_isPassed_2 : decode cX12_isPassed 2 = .ok (.iload_n 3, 1) := by decide +kernel
theorem dX12_isPassed_3 : decode cX12_isPassed 3 = .ok (.invokestatic 124, 3) := by decide +kernel
theorem dX12_isPassed_6 : decode cX12_isPassed 6 = .ok (.istore 4, 2) := by decide +kernel
theorem dX12_isPassed_8 : decode cX12_isPassed 8 = .ok (.aload_n 0, 1) := by decide +kernel
theorem dX12_isPassed_9 : decode cX12_isPassed 9 = .ok (.getfield 103, 3) := by decide +kernel
theorem dX12_isPassed_12 : decode cX12_isPassed 12 = .ok (.iload 4, 2) := by decide +kernel
theorem dX12_isPassed_14 : decode cX12_isPassed 14 = .ok (.laload, 1) := by decide +kernel
theorem dX12_isPassed_15 : decode cX12_isPassed 15 = .ok (.lconst 0, 1) := by decide +kernel
theorem dX12_isPassed_16 : decode cX12_isPassed 16 = .ok (.lcmp, 1) := by decide +kernel
theorem dX12_isPassed_17 : decode cX12_isPassed 17 = .ok (.ifCond .le 45, 3) := by decide +kernel
theorem dX12_isPassed_20 : decode cX12_isPassed 20 = .ok (.aload_n 0, 1) := by decide +kernel
theorem dX12_isPassed_21 : decode cX12_isPassed 21 = .ok (.getfield 17, 3) := by decide +kernel
theorem dX12_isPassed_24 : decode cX12_isPassed 24 = .ok (.iload 4, 2) := by decide +kernel
theorem dX12_isPassed_26 : decode cX12_isPassed 26 = .ok (.iaload, 1) := by decide +kernel
theorem dX12_isPassed_27 : decode cX12_isPassed 27 = .ok (.iconst (-1), 1) := by decide +kernel
theorem dX12_isPassed_28 : decode cX12_isPassed 28 = .ok (.if_icmp .eq 34, 3) := by decide +kernel
theorem dX12_isPassed_31 : decode cX12_isPassed 31 = .ok (.aload_n 0, 1) := by decide +kernel
theorem dX12_isPassed_32 : decode cX12_isPassed 32 = .ok (.getfield 20, 3) := by decide +kernel
theorem dX12_isPassed_35 : decode cX12_isPassed 35 = .ok (.iload 4, 2) := by decide +kernel
theorem dX12_isPassed_37 : decode cX12_isPassed 37 = .ok (.laload, 1) := by decide +kernel
theorem dX12_isPassed_38 : decode cX12_isPassed 38 = .ok (.aload_n 0, 1) := by decide +kernel
theorem dX12_isPassed_39 : decode cX12_isPassed 39 = .ok (.getfield 103, 3) := by decide +kernel
theorem dX12_isPassed_42 : decode cX12_isPassed 42 = .ok (.iload 4, 2) := by decide +kernel
theorem dX12_isPassed_44 : decode cX12_isPassed 44 = .ok (.laload, 1) := by decide +kernel
theorem dX12_isPassed_45 : decode cX12_isPassed 45 = .ok (.ladd, 1) := by decide +kernel
theorem dX12_isPassed_46 : decode cX12_isPassed 46 = .ok (.aload_n 0, 1) := by decide +kernel
theorem dX12_isPassed_47 : decode cX12_isPassed 47 = .ok (.getfield 17, 3) := by decide +kernel
theorem dX12_isPassed_50 : decode cX12_isPassed 50 = .ok (.iload 4, 2) := by decide +kernel
theorem dX12_isPassed_52 : decode cX12_isPassed 52 = .ok (.iaload, 1) := by decide +kernel
theorem dX12_isPassed_53 : decode cX12_isPassed 53 = .ok (.i2l, 1) := by decide +kernel
theorem dX12_isPassed_54 : decode cX12_isPassed 54 = .ok (.lcmp, 1) := by decide +kernel
theorem dX12_isPassed_55 : decode cX12_isPassed 55 = .ok (.ifCond .le 7, 3) := by decide +kernel
theorem dX12_isPassed_58 : decode cX12_isPassed 58 = .ok (.iconst 1, 1) := by decide +kernel
theorem dX12_isPassed_59 : decode cX12_isPassed 59 = .ok (.goto 4, 3) := by decide +kernel
theorem dX12_isPassed_62 : decode cX12_isPassed 62 = .ok (.iconst 0, 1) := by decide +kernel
theorem dX12_isPassed_63 : decode cX12_isPassed 63 = .ok (.ireturn, 1) := by decide +kernel
theorem dX12_fits_0 : decode cX12_fits 0 = .ok (.iconst 1, 1) := by decide +kernel
theorem dX12_fits_1 : decode cX12_fits 1 = .ok (.istore_n 2, 1) := by decide +kernel
theorem dX12_fits_2 : decode cX12_fits 2 = .ok (.iconst 0, 1) := by decide +kernel
theorem dX12_fits_3 : decode cX12_fits 3 = .ok (.istore_n 3, 1) := by decide +kernel
theorem dX12_fits_4 : decode cX12_fits 4 = .ok (.iload_n 3, 1) := by decide +kernel
theorem dX12_fits_5 : decode cX12_fits 5 = .ok (.bipush 6, 2) := by decide +kernel
theorem dX12_fits_7 : decode cX12_fits 7 = .ok (.if_icmp .ge 65, 3) := by decide +kernel
theorem dX12_fits_10 : decode cX12_fits 10 = .ok (.iload_n 2, 1) := by decide +kernel
theorem dX12_fits_11 : decode cX12_fits 11 = .ok (.ifCond .eq 16, 3) := by decide +kernel
theorem dX12_fits_14 : decode cX12_fits 14 = .ok (.aload_n 0, 1) := by decide +kernel
theorem dX12_fits_15 : decode cX12_fits 15 = .ok (.iload_n 3, 1) := by decide +kernel
theorem dX12_fits_16 : decode cX12_fits 16 = .ok (.iload_n 1, 1) := by decide +kernel
theorem dX12_fits_17 : decode cX12_fits 17 = .ok (.invokevirtual 128, 3) := by decide +kernel
theorem dX12_fits_20 : decode cX12_fits 20 = .ok (.ifCond .ne 7, 3) := by decide +kernel
theorem dX12_fits_23 : decode cX12_fits 23 = .ok (.iconst 1, 1) := by decide +kernel
theorem dX12_fits_24 : decode cX12_fits 24 = .ok (.goto 4, 3) := by decide +kernel
theorem dX12_fits_27 : decode cX12_fits 27 = .ok (.iconst 0, 1) := by decide +kernel
theorem dX12_fits_28 : decode cX12_fits 28 = .ok (.istore_n 2, 1) := by decide +kernel
theorem dX12_fits_29 : decode cX12_fits 29 = .ok (.iconst 0, 1) := by decide +kernel
theorem dX12_fits_30 : decode cX12_fits 30 = .ok (.istore 4, 2) := by decide +kernel
theorem dX12_fits_32 : decode cX12_fits 32 = .ok (.iload 4, 2) := by decide +kernel
theorem dX12_fits_34 : decode cX12_fits 34 = .ok (.bipush 6, 2) := by decide +kernel
theorem dX12_fits_36 : decode cX12_fits 36 = .ok (.if_icmp .ge 30, 3) := by decide +kernel
theorem dX12_fits_39 : decode cX12_fits 39 = .ok (.iload_n 2, 1) := by decide +kernel
theorem dX12_fits_40 : decode cX12_fits 40 = .ok (.ifCond .eq 18, 3) := by decide +kernel
theorem dX12_fits_43 : decode cX12_fits 43 = .ok (.aload_n 0, 1) := by decide +kernel
theorem dX12_fits_44 : decode cX12_fits 44 = .ok (.iload_n 3, 1) := by decide +kernel
theorem dX12_fits_45 : decode cX12_fits 45 = .ok (.iload 4, 2) := by decide +kernel
theorem dX12_fits_47 : decode cX12_fits 47 = .ok (.iload_n 1, 1) := by decide +kernel
theorem dX12_fits_48 : decode cX12_fits 48 = .ok (.invokevirtual 132, 3) := by decide +kernel
theorem dX12_fits_51 : decode cX12_fits 51 = .ok (.ifCond .ne 7, 3) := by decide +kernel
theorem dX12_fits_54 : decode cX12_fits 54 = .ok (.iconst 1, 1) := by decide +kernel
theorem dX12_fits_55 : decode cX12_fits 55 = .ok (.goto 4, 3) := by decide +kernel
theorem dX12_fits_58 : decode cX12_fits 58 = .ok (.iconst 0, 1) := by decide +kernel
theorem dX12_fits_59 : decode cX12_fits 59 = .ok (.istore_n 2, 1) := by decide +kernel
theorem dX12_fits_60 : decode cX12_fits 60 = .ok (.iinc 4 1, 3) := by decide +kernel
theorem dX12_fits_63 : decode cX12_fits 63 = .ok (.goto (-31), 3) := by decide +kernel
theorem dX12_fits_66 : decode cX12_fits 66 = .ok (.iinc 3 1, 3) := by decide +kernel
theorem dX12_fits_69 : decode cX12_fits 69 = .ok (.goto (-65), 3) := by decide +kernel
theorem dX12_fits_72 : decode cX12_fits 72 = .ok (.iload_n 2, 1) := by decide +kernel
theorem dX12_fits_73 : decode cX12_fits 73 = .ok (.ireturn, 1) := by decide +kernel
theorem dX12_areAtWork_0 : decode cX12_areAtWork 0 = .ok (.iconst 1, 1) := by decide +kernel
theorem dX12_areAtWork_1 : decode cX12_areAtWork 1 = .ok (.istore_n 1, 1) := by decide +kernel
theorem dX12_areAtWork_2 : decode cX12_areAtWork 2 = .ok (.iconst 0, 1) := by decide +kernel
theorem dX12_areAtWork_3 : decode cX12_areAtWork 3 = .ok (.istore_n 2, 1) := by decide +kernel
theorem dX12_areAtWork_4 : decode cX12_areAtWork 4 = .ok (.iload_n 2, 1) := by decide +kernel
theorem dX12_areAtWork_5 : decode cX12_areAtWork 5 = .ok (.aload_n 0, 1) := by decide +kernel
theorem dX12_areAtWork_6 : decode cX12_areAtWork 6 = .ok (.getfield 114, 3) := by decide +kernel
theorem dX12_areAtWork_9 : decode cX12_areAtWork 9 = .ok (.if_icmp .ge 73, 3) := by decide +kernel
theorem dX12_areAtWork_12 : decode cX12_areAtWork 12 = .ok (.iload_n 1, 1) := by decide +kernel
theorem dX12_areAtWork_13 : decode cX12_areAtWork 13 = .ok (.ifCond .eq 61, 3) := by decide +kernel
theorem dX12_areAtWork_16 : decode cX12_areAtWork 16 = .ok (.aload_n 0, 1) := by decide +kernel
theorem dX12_areAtWork_17 : decode cX12_areAtWork 17 = .ok (.getfield 97, 3) := by decide +kernel
theorem dX12_areAtWork_20 : decode cX12_areAtWork 20 = .ok (.iload_n 2, 1) := by decide +kernel
theorem dX12_areAtWork_21 : decode cX12_areAtWork 21 = .ok (.baload, 1) := by decide +kernel
theorem dX12_areAtWork_22 : decode cX12_areAtWork 22 = .ok (.ifCond .eq 48, 3) := by decide +kernel
theorem dX12_areAtWork_25 : decode cX12_areAtWork 25 = .ok (.aload_n 0, 1) := by decide +kernel
theorem dX12_areAtWork_26 : decode cX12_areAtWork 26 = .ok (.aload_n 0, 1) := by decide +kernel
theorem dX12_areAtWork_27 : decode cX12_areAtWork 27 = .ok (.getfield 39, 3) := by decide +kernel
theorem dX12_areAtWork_30 : decode cX12_areAtWork 30 = .ok (.iload_n 2, 1) := by decide +kernel
theorem dX12_areAtWork_31 : decode cX12_areAtWork 31 = .ok (.iaload, 1) := by decide +kernel
theorem dX12_areAtWork_32 : decode cX12_areAtWork 32 = .ok (.aload_n 0, 1) := by decide +kernel
theorem dX12_areAtWork_33 : decode cX12_areAtWork 33 = .ok (.getfield 135, 3) := by decide +kernel
theorem dX12_areAtWork_36 : decode cX12_areAtWork 36 = .ok (.invokevirtual 138, 3) := by decide +kernel
theorem dX12_areAtWork_39 : decode cX12_areAtWork 39 = .ok (.ifCond .eq 35, 3) := by decide +kernel
theorem dX12_areAtWork_42 : decode cX12_areAtWork 42 = .ok (.aload_n 0, 1) := by decide +kernel
theorem dX12_areAtWork_43 : decode cX12_areAtWork 43 = .ok (.getfield 23, 3) := by decide +kernel
theorem dX12_areAtWork_46 : decode cX12_areAtWork 46 = .ok (.aload_n 0, 1) := by decide +kernel
theorem dX12_areAtWork_47 : decode cX12_areAtWork 47 = .ok (.getfield 33, 3) := by decide +kernel
theorem dX12_areAtWork_50 : decode cX12_areAtWork 50 = .ok (.iload_n 2, 1) := by decide +kernel
theorem dX12_areAtWork_51 : decode cX12_areAtWork 51 = .ok (.iaload, 1) := by decide +kernel
theorem dX12_areAtWork_52 : decode cX12_areAtWork 52 = .ok (.baload, 1) := by decide +kernel
theorem dX12_areAtWork_53 : decode cX12_areAtWork 53 = .ok (.ifCond .ne 21, 3) := by decide +kernel
theorem dX12_areAtWork_56 : decode cX12_areAtWork 56 = .ok (.aload_n 0, 1) := by decide +kernel
theorem dX12_areAtWork_57 : decode cX12_areAtWork 57 = .ok (.getfield 23, 3) := by decide +kernel
theorem dX12_areAtWork_60 : decode cX12_areAtWork 60 = .ok (.aload_n 0, 1) := by decide +kernel
theorem dX12_areAtWork_61 : decode cX12_areAtWork 61 = .ok (.getfield 36, 3) := by decide +kernel
theorem dX12_areAtWork_64 : decode cX12_areAtWork 64 = .ok (.iload_n 2, 1) := by decide +kernel
theorem dX12_areAtWork_65 : decode cX12_areAtWork 65 = .ok (.iaload, 1) := by decide +kernel
theorem dX12_areAtWork_66 : decode cX12_areAtWork 66 = .ok (.baload, 1) := by decide +kernel
theorem dX12_areAtWork_67 : decode cX12_areAtWork 67 = .ok (.ifCond .ne 7, 3) := by decide +kernel
theorem dX12_areAtWork_70 : decode cX12_areAtWork 70 = .ok (.iconst 1, 1) := by decide +kernel
theorem dX12_areAtWork_71 : decode cX12_areAtWork 71 = .ok (.goto 4, 3) := by decide +kernel
theorem dX12_areAtWork_74 : decode cX12_areAtWork 74 = .ok (.iconst 0, 1) := by decide +kernel
theorem dX12_areAtWork_75 : decode cX12_areAtWork 75 = .ok (.istore_n 1, 1) := by decide +kernel
theorem dX12_areAtWork_76 : decode cX12_areAtWork 76 = .ok (.iinc 2 1, 3) := by decide +kernel
theorem dX12_areAtWork_79 : decode cX12_areAtWork 79 = .ok (.goto (-75), 3) := by decide +kernel
theorem dX12_areAtWork_82 : decode cX12_areAtWork 82 = .ok (.iload_n 1, 1) := by decide +kernel
theorem dX12_areAtWork_83 : decode cX12_areAtWork 83 = .ok (.ireturn, 1) := by decide +kernel
theorem dX12_settles_0 : decode cX12_settles 0 = .ok (.iconst 0, 1) := by decide +kernel
theorem dX12_settles_1 : decode cX12_settles 1 = .ok (.istore_n 1, 1) := by decide +kernel
theorem dX12_settles_2 : decode cX12_settles 2 = .ok (.iconst 0, 1) := by decide +kernel
theorem dX12_settles_3 : decode cX12_settles 3 = .ok (.istore_n 2, 1) := by decide +kernel
theorem dX12_settles_4 : decode cX12_settles 4 = .ok (.iload_n 2, 1) := by decide +kernel
theorem dX12_settles_5 : decode cX12_settles 5 = .ok (.aload_n 0, 1) := by decide +kernel
theorem dX12_settles_6 : decode cX12_settles 6 = .ok (.getfield 114, 3) := by decide +kernel
theorem dX12_settles_9 : decode cX12_settles 9 = .ok (.if_icmp .ge 160, 3) := by decide +kernel
theorem dX12_settles_12 : decode cX12_settles 12 = .ok (.aload_n 0, 1) := by decide +kernel
theorem dX12_settles_13 : decode cX12_settles 13 = .ok (.getfield 97, 3) := by decide +kernel
theorem dX12_settles_16 : decode cX12_settles 16 = .ok (.iload_n 2, 1) := by decide +kernel
theorem dX12_settles_17 : decode cX12_settles 17 = .ok (.baload, 1) := by decide +kernel
theorem dX12_settles_18 : decode cX12_settles 18 = .ok (.ifCond .eq 145, 3) := by decide +kernel
theorem dX12_settles_21 : decode cX12_settles 21 = .ok (.aload_n 0, 1) := by decide +kernel
theorem dX12_settles_22 : decode cX12_settles 22 = .ok (.getfield 60, 3) := by decide +kernel
theorem dX12_settles_25 : decode cX12_settles 25 = .ok (.iload_n 2, 1) := by decide +kernel
theorem dX12_settles_26 : decode cX12_settles 26 = .ok (.iconst 4, 1) := by decide +kernel
theorem dX12_settles_27 : decode cX12_settles 27 = .ok (.iastore, 1) := by decide +kernel
theorem dX12_settles_28 : decode cX12_settles 28 = .ok (.aload_n 0, 1) := by decide +kernel
theorem dX12_settles_29 : decode cX12_settles 29 = .ok (.getfield 72, 3) := by decide +kernel
theorem dX12_settles_32 : decode cX12_settles 32 = .ok (.iload_n 2, 1) := by decide +kernel
theorem dX12_settles_33 : decode cX12_settles 33 = .ok (.aload_n 0, 1) := by decide +kernel
theorem dX12_settles_34 : decode cX12_settles 34 = .ok (.getfield 135, 3) := by decide +kernel
theorem dX12_settles_37 : decode cX12_settles 37 = .ok (.iastore, 1) := by decide +kernel
theorem dX12_settles_38 : decode cX12_settles 38 = .ok (.aload_n 0, 1) := by decide +kernel
theorem dX12_settles_39 : decode cX12_settles 39 = .ok (.aload_n 0, 1) := by decide +kernel
theorem dX12_settles_40 : decode cX12_settles 40 = .ok (.getfield 33, 3) := by decide +kernel
theorem dX12_settles_43 : decode cX12_settles 43 = .ok (.iload_n 2, 1) := by decide +kernel
theorem dX12_settles_44 : decode cX12_settles 44 = .ok (.iaload, 1) := by decide +kernel
theorem dX12_settles_45 : decode cX12_settles 45 = .ok (.aload_n 0, 1) := by decide +kernel
theorem dX12_settles_46 : decode cX12_settles 46 = .ok (.getfield 36, 3) := by decide +kernel
theorem dX12_settles_49 : decode cX12_settles 49 = .ok (.iload_n 2, 1) := by decide +kernel
theorem dX12_settles_50 : decode cX12_settles 50 = .ok (.iaload, 1) := by decide +kernel
theorem dX12_settles_51 : decode cX12_settles 51 = .ok (.aload_n 0, 1) := by decide +kernel
theorem dX12_settles_52 : decode cX12_settles 52 = .ok (.getfield 39, 3) := by decide +kernel
theorem dX12_settles_55 : decode cX12_settles 55 = .ok (.iload_n 2, 1) := by decide +kernel
theorem dX12_settles_56 : decode cX12_settles 56 = .ok (.iaload, 1) := by decide +kernel
theorem dX12_settles_57 : decode cX12_settles 57 = .ok (.aload_n 0, 1) := by decide +kernel
theorem dX12_settles_58 : decode cX12_settles 58 = .ok (.getfield 42, 3) := by decide +kernel
theorem dX12_settles_61 : decode cX12_settles 61 = .ok (.iload_n 2, 1) := by decide +kernel
theorem dX12_settles_62 : decode cX12_settles 62 = .ok (.iaload, 1) := by decide +kernel
theorem dX12_settles_63 : decode cX12_settles 63 = .ok (.i2l, 1) := by decide +kernel
theorem dX12_settles_64 : decode cX12_settles 64 = .ok (.iload_n 2, 1) := by decide +kernel
theorem dX12_settles_65 : decode cX12_settles 65 = .ok (.invokevirtual 141, 3) := by decide +kernel
theorem dX12_settles_68 : decode cX12_settles 68 = .ok (.aload_n 0, 1) := by decide +kernel
theorem dX12_settles_69 : decode cX12_settles 69 = .ok (.getfield 20, 3) := by decide +kernel
theorem dX12_settles_72 : decode cX12_settles 72 = .ok (.aload_n 0, 1) := by decide +kernel
theorem dX12_settles_73 : decode cX12_settles 73 = .ok (.getfield 33, 3) := by decide +kernel
theorem dX12_settles_76 : decode cX12_settles 76 = .ok (.iload_n 2, 1) := by decide +kernel
theorem dX12_settles_77 : decode cX12_settles 77 = .ok (.iaload, 1) := by decide +kernel
theorem dX12_settles_78 : decode cX12_settles 78 = .ok (.aload_n 0, 1) := by decide +kernel
theorem dX12_settles_79 : decode cX12_settles 79 = .ok (.getfield 36, 3) := by decide +kernel
theorem dX12_settles_82 : decode cX12_settles 82 = .ok (.iload_n 2, 1) := by decide +kernel
theorem dX12_settles_83 : decode cX12_settles 83 = .ok (.iaload, 1) := by decide +kernel
theorem dX12_settles_84 : decode cX12_settles 84 = .ok (.aload_n 0, 1) := by decide +kernel
theorem dX12_settles_85 : decode cX12_settles 85 = .ok (.getfield 39, 3) := by decide +kernel
theorem dX12_settles_88 : decode cX12_settles 88 = .ok (.iload_n 2, 1) := by decide +kernel
theorem dX12_settles_89 : decode cX12_settles 89 = .ok (.iaload, 1) := by decide +kernel
theorem dX12_settles_90 : decode cX12_settles 90 = .ok (.invokestatic 124, 3) := by decide +kernel
theorem dX12_settles_93 : decode cX12_settles 93 = .ok (.dup2, 1) := by decide +kernel
theorem dX12_settles_94 : decode cX12_settles 94 = .ok (.laload, 1) := by decide +kernel
theorem dX12_settles_95 : decode cX12_settles 95 = .ok (.aload_n 0, 1) := by decide +kernel
theorem dX12_settles_96 : decode cX12_settles 96 = .ok (.getfield 42, 3) := by decide +kernel
theorem dX12_settles_99 : decode cX12_settles 99 = .ok (.iload_n 2, 1) := by decide +kernel
theorem dX12_settles_100 : decode cX12_settles 100 = .ok (.iaload, 1) := by decide +kernel
theorem dX12_settles_101 : decode cX12_settles 101 = .ok (.i2l, 1) := by decide +kernel
theorem dX12_settles_102 : decode cX12_settles 102 = .ok (.ladd, 1) := by decide +kernel
theorem dX12_settles_103 : decode cX12_settles 103 = .ok (.lastore, 1) := by decide +kernel
theorem dX12_settles_104 : decode cX12_settles 104 = .ok (.aload_n 0, 1) := by decide +kernel
theorem dX12_settles_105 : decode cX12_settles 105 = .ok (.getfield 20, 3) := by decide +kernel
theorem dX12_settles_108 : decode cX12_settles 108 = .ok (.aload_n 0, 1) := by decide +kernel
theorem dX12_settles_109 : decode cX12_settles 109 = .ok (.getfield 36, 3) := by decide +kernel
theorem dX12_settles_112 : decode cX12_settles 112 = .ok (.iload_n 2, 1) := by decide +kernel
theorem dX12_settles_113 : decode cX12_settles 113 = .ok (.iaload, 1) := by decide +kernel
theorem dX12_settles_114 : decode cX12_settles 114 = .ok (.aload_n 0, 1) := by decide +kernel
theorem dX12_settles_115 : decode cX12_settles 115 = .ok (.getfield 33, 3) := by decide +kernel
theorem dX12_settles_118 : decode cX12_settles 118 = .ok (.iload_n 2, 1) := by decide +kernel
theorem dX12_settles_119 : decode cX12_settles 119 = .ok (.iaload, 1) := by decide +kernel
theorem dX12_settles_120 : decode cX12_settles 120 = .ok (.aload_n 0, 1) := by decide +kernel
theorem dX12_settles_121 : decode cX12_settles 121 = .ok (.getfield 39, 3) := by decide +kernel
theorem dX12_settles_124 : decode cX12_settles 124 = .ok (.iload_n 2, 1) := by decide +kernel
theorem dX12_settles_125 : decode cX12_settles 125 = .ok (.iaload, 1) := by decide +kernel
theorem dX12_settles_126 : decode cX12_settles 126 = .ok (.invokestatic 124, 3) := by decide +kernel
theorem dX12_settles_129 : decode cX12_settles 129 = .ok (.dup2, 1) := by decide +kernel
theorem dX12_settles_130 : decode cX12_settles 130 = .ok (.laload, 1) := by decide +kernel
theorem dX12_settles_131 : decode cX12_settles 131 = .ok (.aload_n 0, 1) := by decide +kernel
theorem dX12_settles_132 : decode cX12_settles 132 = .ok (.getfield 42, 3) := by decide +kernel
theorem dX12_settles_135 : decode cX12_settles 135 = .ok (.iload_n 2, 1) := by decide +kernel
theorem dX12_settles_136 : decode cX12_settles 136 = .ok (.iaload, 1) := by decide +kernel
theorem dX12_settles_137 : decode cX12_settles 137 = .ok (.i2l, 1) := by decide +kernel
theorem dX12_settles_138 : decode cX12_settles 138 = .ok (.lsub, 1) := by decide +kernel
theorem dX12_settles_139 : decode cX12_settles 139 = .ok (.lastore, 1) := by decide +kernel
theorem dX12_settles_140 : decode cX12_settles 140 = .ok (.aload_n 0, 1) := by decide +kernel
theorem dX12_settles_141 : decode cX12_settles 141 = .ok (.getfield 84, 3) := by decide +kernel
theorem dX12_settles_144 : decode cX12_settles 144 = .ok (.aload_n 0, 1) := by decide +kernel
theorem dX12_settles_145 : decode cX12_settles 145 = .ok (.getfield 145, 3) := by decide +kernel
theorem dX12_settles_148 : decode cX12_settles 148 = .ok (.iload_n 2, 1) := by decide +kernel
theorem dX12_settles_149 : decode cX12_settles 149 = .ok (.iastore, 1) := by decide +kernel
theorem dX12_settles_150 : decode cX12_settles 150 = .ok (.aload_n 0, 1) := by decide +kernel
theorem dX12_settles_151 : decode cX12_settles 151 = .ok (.dup, 1) := by decide +kernel
theorem dX12_settles_152 : decode cX12_settles 152 = .ok (.getfield 145, 3) := by decide +kernel
theorem dX12_settles_155 : decode cX12_settles 155 = .ok (.iconst 1, 1) := by decide +kernel
theorem dX12_settles_156 : decode cX12_settles 156 = .ok (.iadd, 1) := by decide +kernel
theorem dX12_settles_157 : decode cX12_settles 157 = .ok (.putfield 145, 3) := by decide +kernel
theorem dX12_settles_160 : decode cX12_settles 160 = .ok (.iinc 1 1, 3) := by decide +kernel
theorem dX12_settles_163 : decode cX12_settles 163 = .ok (.iinc 2 1, 3) := by decide +kernel
theorem dX12_settles_166 : decode cX12_settles 166 = .ok (.goto (-162), 3) := by decide +kernel
theorem dX12_settles_169 : decode cX12_settles 169 = .ok (.iload_n 1, 1) := by decide +kernel
theorem dX12_settles_170 : decode cX12_settles 170 = .ok (.ireturn, 1) := by decide +kernel
theorem dX12_queued_0 : decode cX12_queued 0 = .ok (.iload_n 3, 1) := by decide +kernel
theorem dX12_queued_1 : decode cX12_queued 1 = .ok (.istore 4, 2) := by decide +kernel
theorem dX12_queued_3 : decode cX12_queued 3 = .ok (.iconst 2, 1) := by decide +kernel
theorem dX12_queued_4 : decode cX12_queued 4 = .ok (.istore 5, 2) := by decide +kernel
theorem dX12_queued_6 : decode cX12_queued 6 = .ok (.iload 5, 2) := by decide +kernel
theorem dX12_queued_8 : decode cX12_queued 8 = .ok (.ifCond .lt 83, 3) := by decide +kernel
theorem dX12_queued_11 : decode cX12_queued 11 = .ok (.iconst 0, 1) := by decide +kernel
theorem dX12_queued_12 : decode cX12_queued 12 = .ok (.istore 6, 2) := by decide +kernel
theorem dX12_queued_14 : decode cX12_queued 14 = .ok (.iload 6, 2) := by decide +kernel
theorem dX12_queued_16 : decode cX12_queued 16 = .ok (.aload_n 0, 1) := by decide +kernel
theorem dX12_queued_17 : decode cX12_queued 17 = .ok (.getfield 114, 3) := by decide +kernel
theorem dX12_queued_20 : decode cX12_queued 20 = .ok (.if_icmp .ge 65, 3) := by decide +kernel
theorem dX12_queued_23 : decode cX12_queued 23 = .ok (.aload_n 0, 1) := by decide +kernel
theorem dX12_queued_24 : decode cX12_queued 24 = .ok (.getfield 60, 3) := by decide +kernel
theorem dX12_queued_27 : decode cX12_queued 27 = .ok (.iload 6, 2) := by decide +kernel
theorem dX12_queued_29 : decode cX12_queued 29 = .ok (.iaload, 1) := by decide +kernel
theorem dX12_queued_30 : decode cX12_queued 30 = .ok (.iconst 2, 1) := by decide +kernel
theorem dX12_queued_31 : decode cX12_queued 31 = .ok (.if_icmp .ne 48, 3) := by decide +kernel
theorem dX12_queued_34 : decode cX12_queued 34 = .ok (.aload_n 0, 1) := by decide +kernel
theorem dX12_queued_35 : decode cX12_queued 35 = .ok (.getfield 33, 3) := by decide +kernel
theorem dX12_queued_38 : decode cX12_queued 38 = .ok (.iload 6, 2) := by decide +kernel
theorem dX12_queued_40 : decode cX12_queued 40 = .ok (.iaload, 1) := by decide +kernel
theorem dX12_queued_41 : decode cX12_queued 41 = .ok (.iload_n 1, 1) := by decide +kernel
theorem dX12_queued_42 : decode cX12_queued 42 = .ok (.if_icmp .ne 37, 3) := by decide +kernel
theorem dX12_queued_45 : decode cX12_queued 45 = .ok (.aload_n 0, 1) := by decide +kernel
theorem dX12_queued_46 : decode cX12_queued 46 = .ok (.getfield 39, 3) := by decide +kernel
theorem dX12_queued_49 : decode cX12_queued 49 = .ok (.iload 6, 2) := by decide +kernel
theorem dX12_queued_51 : decode cX12_queued 51 = .ok (.iaload, 1) := by decide +kernel
theorem dX12_queued_52 : decode cX12_queued 52 = .ok (.iload_n 2, 1) := by decide +kernel
theorem dX12_queued_53 : decode cX12_queued 53 = .ok (.if_icmp .ne 26, 3) := by decide +kernel
theorem dX12_queued_56 : decode cX12_queued 56 = .ok (.aload_n 0, 1) := by decide +kernel
theorem dX12_queued_57 : decode cX12_queued 57 = .ok (.getfield 48, 3) := by decide +kernel
theorem dX12_queued_60 : decode cX12_queued 60 = .ok (.iload 6, 2) := by decide +kernel
theorem dX12_queued_62 : decode cX12_queued 62 = .ok (.iaload, 1) := by decide +kernel
theorem dX12_queued_63 : decode cX12_queued 63 = .ok (.iload 5, 2) := by decide +kernel
theorem dX12_queued_65 : decode cX12_queued 65 = .ok (.if_icmp .ne 14, 3) := by decide +kernel
theorem dX12_queued_68 : decode cX12_queued 68 = .ok (.iload 4, 2) := by decide +kernel
theorem dX12_queued_70 : decode cX12_queued 70 = .ok (.ifCond .ne 6, 3) := by decide +kernel
theorem dX12_queued_73 : decode cX12_queued 73 = .ok (.iload 6, 2) := by decide +kernel
theorem dX12_queued_75 : decode cX12_queued 75 = .ok (.ireturn, 1) := by decide +kernel
theorem dX12_queued_76 : decode cX12_queued 76 = .ok (.iinc 4 (-1), 3) := by decide +kernel
theorem dX12_queued_79 : decode cX12_queued 79 = .ok (.iinc 6 1, 3) := by decide +kernel
theorem dX12_queued_82 : decode cX12_queued 82 = .ok (.goto (-68), 3) := by decide +kernel
theorem dX12_queued_85 : decode cX12_queued 85 = .ok (.iinc 5 (-1), 3) := by decide +kernel
theorem dX12_queued_88 : decode cX12_queued 88 = .ok (.goto (-82), 3) := by decide +kernel
theorem dX12_queued_91 : decode cX12_queued 91 = .ok (.iconst (-1), 1) := by decide +kernel
theorem dX12_queued_92 : decode cX12_queued 92 = .ok (.ireturn, 1) := by decide +kernel
theorem dX12_settlesFirst_0 : decode cX12_settlesFirst 0 = .ok (.aload_n 0, 1) := by decide +kernel
theorem dX12_settlesFirst_1 : decode cX12_settlesFirst 1 = .ok (.iload_n 1, 1) := by decide +kernel
theorem dX12_settlesFirst_2 : decode cX12_settlesFirst 2 = .ok (.iload_n 2, 1) := by decide +kernel
theorem dX12_settlesFirst_3 : decode cX12_settlesFirst 3 = .ok (.iconst 0, 1) := by decide +kernel
theorem dX12_settlesFirst_4 : decode cX12_settlesFirst 4 = .ok (.invokevirtual 148, 3) := by decide +kernel
theorem dX12_settlesFirst_7 : decode cX12_settlesFirst 7 = .ok (.istore_n 3, 1) := by decide +kernel
theorem dX12_settlesFirst_8 : decode cX12_settlesFirst 8 = .ok (.iload_n 3, 1) := by decide +kernel
theorem dX12_settlesFirst_9 : decode cX12_settlesFirst 9 = .ok (.iconst (-1), 1) := by decide +kernel
theorem dX12_settlesFirst_10 : decode cX12_settlesFirst 10 = .ok (.if_icmp .eq 28, 3) := by decide +kernel
theorem dX12_settlesFirst_13 : decode cX12_settlesFirst 13 = .ok (.aload_n 0, 1) := by decide +kernel
theorem dX12_settlesFirst_14 : decode cX12_settlesFirst 14 = .ok (.getfield 69, 3) := by decide +kernel
theorem dX12_settlesFirst_17 : decode cX12_settlesFirst 17 = .ok (.iload_n 3, 1) := by decide +kernel
theorem dX12_settlesFirst_18 : decode cX12_settlesFirst 18 = .ok (.iaload, 1) := by decide +kernel
theorem dX12_settlesFirst_19 : decode cX12_settlesFirst 19 = .ok (.iconst (-1), 1) := by decide +kernel
theorem dX12_settlesFirst_20 : decode cX12_settlesFirst 20 = .ok (.if_icmp .eq 20, 3) := by decide +kernel
theorem dX12_settlesFirst_23 : decode cX12_settlesFirst 23 = .ok (.aload_n 0, 1) := by decide +kernel
theorem dX12_settlesFirst_24 : decode cX12_settlesFirst 24 = .ok (.getfield 60, 3) := by decide +kernel
theorem dX12_settlesFirst_27 : decode cX12_settlesFirst 27 = .ok (.aload_n 0, 1) := by decide +kernel
theorem dX12_settlesFirst_28 : decode cX12_settlesFirst 28 = .ok (.getfield 69, 3) := by decide +kernel
theorem dX12_settlesFirst_31 : decode cX12_settlesFirst 31 = .ok (.iload_n 3, 1) := by decide +kernel
theorem dX12_settlesFirst_32 : decode cX12_settlesFirst 32 = .ok (.iaload, 1) := by decide +kernel
theorem dX12_settlesFirst_33 : decode cX12_settlesFirst 33 = .ok (.iaload, 1) := by decide +kernel
theorem dX12_settlesFirst_34 : decode cX12_settlesFirst 34 = .ok (.iconst 2, 1) := by decide +kernel
theorem dX12_settlesFirst_35 : decode cX12_settlesFirst 35 = .ok (.if_icmp .eq 5, 3) := by decide +kernel
theorem dX12_settlesFirst_38 : decode cX12_settlesFirst 38 = .ok (.iconst 0, 1) := by decide +kernel
theorem dX12_settlesFirst_39 : decode cX12_settlesFirst 39 = .ok (.ireturn, 1) := by decide +kernel
theorem dX12_settlesFirst_40 : decode cX12_settlesFirst 40 = .ok (.aload_n 0, 1) := by decide +kernel
theorem dX12_settlesFirst_41 : decode cX12_settlesFirst 41 = .ok (.invokevirtual 151, 3) := by decide +kernel
theorem dX12_settlesFirst_44 : decode cX12_settlesFirst 44 = .ok (.aload_n 0, 1) := by decide +kernel
theorem dX12_settlesFirst_45 : decode cX12_settlesFirst 45 = .ok (.getfield 97, 3) := by decide +kernel
theorem dX12_settlesFirst_48 : decode cX12_settlesFirst 48 = .ok (.iload_n 3, 1) := by decide +kernel
theorem dX12_settlesFirst_49 : decode cX12_settlesFirst 49 = .ok (.iconst 1, 1) := by decide +kernel
theorem dX12_settlesFirst_50 : decode cX12_settlesFirst 50 = .ok (.bastore, 1) := by decide +kernel
theorem dX12_settlesFirst_51 : decode cX12_settlesFirst 51 = .ok (.aload_n 0, 1) := by decide +kernel
theorem dX12_settlesFirst_52 : decode cX12_settlesFirst 52 = .ok (.getfield 69, 3) := by decide +kernel
theorem dX12_settlesFirst_55 : decode cX12_settlesFirst 55 = .ok (.iload_n 3, 1) := by decide +kernel
theorem dX12_settlesFirst_56 : decode cX12_settlesFirst 56 = .ok (.iaload, 1) := by decide +kernel
theorem dX12_settlesFirst_57 : decode cX12_settlesFirst 57 = .ok (.iconst (-1), 1) := by decide +kernel
theorem dX12_settlesFirst_58 : decode cX12_settlesFirst 58 = .ok (.if_icmp .eq 15, 3) := by decide +kernel
theorem dX12_settlesFirst_61 : decode cX12_settlesFirst 61 = .ok (.aload_n 0, 1) := by decide +kernel
theorem dX12_settlesFirst_62 : decode cX12_settlesFirst 62 = .ok (.getfield 97, 3) := by decide +kernel
theorem dX12_settlesFirst_65 : decode cX12_settlesFirst 65 = .ok (.aload_n 0, 1) := by decide +kernel
theorem dX12_settlesFirst_66 : decode cX12_settlesFirst 66 = .ok (.getfield 69, 3) := by decide +kernel
theorem dX12_settlesFirst_69 : decode cX12_settlesFirst 69 = .ok (.iload_n 3, 1) := by decide +kernel
theorem dX12_settlesFirst_70 : decode cX12_settlesFirst 70 = .ok (.iaload, 1) := by decide +kernel
theorem dX12_settlesFirst_71 : decode cX12_settlesFirst 71 = .ok (.iconst 1, 1) := by decide +kernel
theorem dX12_settlesFirst_72 : decode cX12_settlesFirst 72 = .ok (.bastore, 1) := by decide +kernel
theorem dX12_settlesFirst_73 : decode cX12_settlesFirst 73 = .ok (.aload_n 0, 1) := by decide +kernel
theorem dX12_settlesFirst_74 : decode cX12_settlesFirst 74 = .ok (.invokevirtual 154, 3) := by decide +kernel
theorem dX12_settlesFirst_77 : decode cX12_settlesFirst 77 = .ok (.aload_n 0, 1) := by decide +kernel
theorem dX12_settlesFirst_78 : decode cX12_settlesFirst 78 = .ok (.invokevirtual 157, 3) := by decide +kernel
theorem dX12_settlesFirst_81 : decode cX12_settlesFirst 81 = .ok (.ifCond .eq 34, 3) := by decide +kernel
theorem dX12_settlesFirst_84 : decode cX12_settlesFirst 84 = .ok (.aload_n 0, 1) := by decide +kernel
theorem dX12_settlesFirst_85 : decode cX12_settlesFirst 85 = .ok (.iconst 0, 1) := by decide +kernel
theorem dX12_settlesFirst_86 : decode cX12_settlesFirst 86 = .ok (.invokevirtual 161, 3) := by decide +kernel
theorem dX12_settlesFirst_89 : decode cX12_settlesFirst 89 = .ok (.ifCond .eq 26, 3) := by decide +kernel
theorem dX12_settlesFirst_92 : decode cX12_settlesFirst 92 = .ok (.aload_n 0, 1) := by decide +kernel
theorem dX12_settlesFirst_93 : decode cX12_settlesFirst 93 = .ok (.iconst 1, 1) := by decide +kernel
theorem dX12_settlesFirst_94 : decode cX12_settlesFirst 94 = .ok (.invokevirtual 161, 3) := by decide +kernel
theorem dX12_settlesFirst_97 : decode cX12_settlesFirst 97 = .ok (.ifCond .eq 18, 3) := by decide +kernel
theorem dX12_settlesFirst_100 : decode cX12_settlesFirst 100 = .ok (.aload_n 0, 1) := by decide +kernel
theorem dX12_settlesFirst_101 : decode cX12_settlesFirst 101 = .ok (.iconst 2, 1) := by decide +kernel
theorem dX12_settlesFirst_102 : decode cX12_settlesFirst 102 = .ok (.invokevirtual 161, 3) := by decide +kernel
theorem dX12_settlesFirst_105 : decode cX12_settlesFirst 105 = .ok (.ifCond .eq 10, 3) := by decide +kernel
theorem dX12_settlesFirst_108 : decode cX12_settlesFirst 108 = .ok (.aload_n 0, 1) := by decide +kernel
theorem dX12_settlesFirst_109 : decode cX12_settlesFirst 109 = .ok (.invokevirtual 165, 3) := by decide +kernel
theorem dX12_settlesFirst_112 : decode cX12_settlesFirst 112 = .ok (.goto 4, 3) := by decide +kernel
theorem dX12_settlesFirst_115 : decode cX12_settlesFirst 115 = .ok (.iconst 0, 1) := by decide +kernel
theorem dX12_settlesFirst_116 : decode cX12_settlesFirst 116 = .ok (.ireturn, 1) := by decide +kernel
theorem dX12_runs_0 : decode cX12_runs 0 = .ok (.iconst 0, 1) := by decide +kernel
theorem dX12_runs_1 : decode cX12_runs 1 = .ok (.istore_n 1, 1) := by decide +kernel
theorem dX12_runs_2 : decode cX12_runs 2 = .ok (.iconst 1, 1) := by decide +kernel
theorem dX12_runs_3 : decode cX12_runs 3 = .ok (.istore_n 2, 1) := by decide +kernel
theorem dX12_runs_4 : decode cX12_runs 4 = .ok (.iload_n 2, 1) := by decide +kernel
theorem dX12_runs_5 : decode cX12_runs 5 = .ok (.ifCond .le 51, 3) := by decide +kernel
theorem dX12_runs_8 : decode cX12_runs 8 = .ok (.iconst 0, 1) := by decide +kernel
theorem dX12_runs_9 : decode cX12_runs 9 = .ok (.istore_n 2, 1) := by decide +kernel
theorem dX12_runs_10 : decode cX12_runs 10 = .ok (.iconst 0, 1) := by decide +kernel
theorem dX12_runs_11 : decode cX12_runs 11 = .ok (.istore_n 3, 1) := by decide +kernel
theorem dX12_runs_12 : decode cX12_runs 12 = .ok (.iload_n 3, 1) := by decide +kernel
theorem dX12_runs_13 : decode cX12_runs 13 = .ok (.iconst 3, 1) := by decide +kernel
theorem dX12_runs_14 : decode cX12_runs 14 = .ok (.if_icmp .ge 35, 3) := by decide +kernel
theorem dX12_runs_17 : decode cX12_runs 17 = .ok (.iconst 0, 1) := by decide +kernel
theorem dX12_runs_18 : decode cX12_runs 18 = .ok (.istore 4, 2) := by decide +kernel
theorem dX12_runs_20 : decode cX12_runs 20 = .ok (.iload 4, 2) := by decide +kernel
theorem dX12_runs_22 : decode cX12_runs 22 = .ok (.bipush 6, 2) := by decide +kernel
theorem dX12_runs_24 : decode cX12_runs 24 = .ok (.if_icmp .ge 19, 3) := by decide +kernel
theorem dX12_runs_27 : decode cX12_runs 27 = .ok (.iload_n 2, 1) := by decide +kernel
theorem dX12_runs_28 : decode cX12_runs 28 = .ok (.aload_n 0, 1) := by decide +kernel
theorem dX12_runs_29 : decode cX12_runs 29 = .ok (.iload 4, 2) := by decide +kernel
theorem dX12_runs_31 : decode cX12_runs 31 = .ok (.iload_n 3, 1) := by decide +kernel
theorem dX12_runs_32 : decode cX12_runs 32 = .ok (.invokevirtual 169, 3) := by decide +kernel
theorem dX12_runs_35 : decode cX12_runs 35 = .ok (.iadd, 1) := by decide +kernel
theorem dX12_runs_36 : decode cX12_runs 36 = .ok (.istore_n 2, 1) := by decide +kernel
theorem dX12_runs_37 : decode cX12_runs 37 = .ok (.iinc 4 1, 3) := by decide +kernel
theorem dX12_runs_40 : decode cX12_runs 40 = .ok (.goto (-20), 3) := by decide +kernel
theorem dX12_runs_43 : decode cX12_runs 43 = .ok (.iinc 3 1, 3) := by decide +kernel
theorem dX12_runs_46 : decode cX12_runs 46 = .ok (.goto (-34), 3) := by decide +kernel
theorem dX12_runs_49 : decode cX12_runs 49 = .ok (.iload_n 1, 1) := by decide +kernel
theorem dX12_runs_50 : decode cX12_runs 50 = .ok (.iload_n 2, 1) := by decide +kernel
theorem dX12_runs_51 : decode cX12_runs 51 = .ok (.iadd, 1) := by decide +kernel
theorem dX12_runs_52 : decode cX12_runs 52 = .ok (.istore_n 1, 1) := by decide +kernel
theorem dX12_runs_53 : decode cX12_runs 53 = .ok (.goto (-49), 3) := by decide +kernel
theorem dX12_runs_56 : decode cX12_runs 56 = .ok (.iload_n 1, 1) := by decide +kernel
theorem dX12_runs_57 : decode cX12_runs 57 = .ok (.ireturn, 1) := by decide +kernel
theorem dX12_last_0 : decode cX12_last 0 = .ok (.iconst (-1), 1) := by decide +kernel
theorem dX12_last_1 : decode cX12_last 1 = .ok (.istore 4, 2) := by decide +kernel
theorem dX12_last_3 : decode cX12_last 3 = .ok (.iconst 0, 1) := by decide +kernel
theorem dX12_last_4 : decode cX12_last 4 = .ok (.istore 5, 2) := by decide +kernel
theorem dX12_last_6 : decode cX12_last 6 = .ok (.iload 5, 2) := by decide +kernel
theorem dX12_last_8 : decode cX12_last 8 = .ok (.aload_n 0, 1) := by decide +kernel
theorem dX12_last_9 : decode cX12_last 9 = .ok (.getfield 114, 3) := by decide +kernel
theorem dX12_last_12 : decode cX12_last 12 = .ok (.if_icmp .ge 94, 3) := by decide +kernel
theorem dX12_last_15 : decode cX12_last 15 = .ok (.aload_n 0, 1) := by decide +kernel
theorem dX12_last_16 : decode cX12_last 16 = .ok (.getfield 97, 3) := by decide +kernel
theorem dX12_last_19 : decode cX12_last 19 = .ok (.iload 5, 2) := by decide +kernel
theorem dX12_last_21 : decode cX12_last 21 = .ok (.baload, 1) := by decide +kernel
theorem dX12_last_22 : decode cX12_last 22 = .ok (.ifCond .eq 34, 3) := by decide +kernel
theorem dX12_last_25 : decode cX12_last 25 = .ok (.aload_n 0, 1) := by decide +kernel
theorem dX12_last_26 : decode cX12_last 26 = .ok (.getfield 33, 3) := by decide +kernel
theorem dX12_last_29 : decode cX12_last 29 = .ok (.iload 5, 2) := by decide +kernel
theorem dX12_last_31 : decode cX12_last 31 = .ok (.iaload, 1) := by decide +kernel
theorem dX12_last_32 : decode cX12_last 32 = .ok (.iload_n 1, 1) := by decide +kernel
theorem dX12_last_33 : decode cX12_last 33 = .ok (.if_icmp .ne 23, 3) := by decide +kernel
theorem dX12_last_36 : decode cX12_last 36 = .ok (.iload_n 2, 1) := by decide +kernel
theorem dX12_last_37 : decode cX12_last 37 = .ok (.iconst (-1), 1) := by decide +kernel
theorem dX12_last_38 : decode cX12_last 38 = .ok (.if_icmp .eq 14, 3) := by decide +kernel
theorem dX12_last_41 : decode cX12_last 41 = .ok (.aload_n 0, 1) := by decide +kernel
theorem dX12_last_42 : decode cX12_last 42 = .ok (.getfield 36, 3) := by decide +kernel
theorem dX12_last_45 : decode cX12_last 45 = .ok (.iload 5, 2) := by decide +kernel
theorem dX12_last_47 : decode cX12_last 47 = .ok (.iaload, 1) := by decide +kernel
theorem dX12_last_48 : decode cX12_last 48 = .ok (.iload_n 2, 1) := by decide +kernel
theorem dX12_last_49 : decode cX12_last 49 = .ok (.if_icmp .ne 7, 3) := by decide +kernel
theorem dX12_last_52 : decode cX12_last 52 = .ok (.iconst 1, 1) := by decide +kernel
theorem dX12_last_53 : decode cX12_last 53 = .ok (.goto 4, 3) := by decide +kernel
theorem dX12_last_56 : decode cX12_last 56 = .ok (.iconst 0, 1) := by decide +kernel
theorem dX12_last_57 : decode cX12_last 57 = .ok (.istore 6, 2) := by decide +kernel
theorem dX12_last_59 : decode cX12_last 59 = .ok (.iload 6, 2) := by decide +kernel
theorem dX12_last_61 : decode cX12_last 61 = .ok (.ifCond .eq 35, 3) := by decide +kernel
theorem dX12_last_64 : decode cX12_last 64 = .ok (.iload 4, 2) := by decide +kernel
theorem dX12_last_66 : decode cX12_last 66 = .ok (.iconst (-1), 1) := by decide +kernel
theorem dX12_last_67 : decode cX12_last 67 = .ok (.if_icmp .eq 24, 3) := by decide +kernel
theorem dX12_last_70 : decode cX12_last 70 = .ok (.iload_n 3, 1) := by decide +kernel
theorem dX12_last_71 : decode cX12_last 71 = .ok (.ifCond .eq 20, 3) := by decide +kernel
theorem dX12_last_74 : decode cX12_last 74 = .ok (.aload_n 0, 1) := by decide +kernel
theorem dX12_last_75 : decode cX12_last 75 = .ok (.getfield 48, 3) := by decide +kernel
theorem dX12_last_78 : decode cX12_last 78 = .ok (.iload 5, 2) := by decide +kernel
theorem dX12_last_80 : decode cX12_last 80 = .ok (.iaload, 1) := by decide +kernel
theorem dX12_last_81 : decode cX12_last 81 = .ok (.aload_n 0, 1) := by decide +kernel
theorem dX12_last_82 : decode cX12_last 82 = .ok (.getfield 48, 3) := by decide +kernel
theorem dX12_last_85 : decode cX12_last 85 = .ok (.iload 4, 2) := by decide +kernel
theorem dX12_last_87 : decode cX12_last 87 = .ok (.iaload, 1) := by decide +kernel
theorem dX12_last_88 : decode cX12_last 88 = .ok (.if_icmp .gt 8, 3) := by decide +kernel
theorem dX12_last_91 : decode cX12_last 91 = .ok (.iload 5, 2) := by decide +kernel
theorem dX12_last_93 : decode cX12_last 93 = .ok (.goto 5, 3) := by decide +kernel
