theorem dX7_writeNumber_45 : decode cX7_writeNumber 45 = .ok (.irem, 1) := by decide +kernel
theorem dX7_writeNumber_46 : decode cX7_writeNumber 46 = .ok (.iadd, 1) := by decide +kernel
theorem dX7_writeNumber_47 : decode cX7_writeNumber 47 = .ok (.iastore, 1) := by decide +kernel
theorem dX7_writeNumber_48 : decode cX7_writeNumber 48 = .ok (.aload_n 0, 1) := by decide +kernel
theorem dX7_writeNumber_49 : decode cX7_writeNumber 49 = .ok (.dup, 1) := by decide +kernel
theorem dX7_writeNumber_50 : decode cX7_writeNumber 50 = .ok (.getfield 117, 3) := by decide +kernel
theorem dX7_writeNumber_53 : decode cX7_writeNumber 53 = .ok (.iconst 1, 1) := by decide +kernel
theorem dX7_writeNumber_54 : decode cX7_writeNumber 54 = .ok (.iadd, 1) := by decide +kernel
theorem dX7_writeNumber_55 : decode cX7_writeNumber 55 = .ok (.putfield 117, 3) := by decide +kernel
theorem dX7_writeNumber_58 : decode cX7_writeNumber 58 = .ok (.return_, 1) := by decide +kernel
theorem dX7_size_0 : decode cX7_size 0 = .ok (.iload_n 0, 1) := by decide +kernel
theorem dX7_size_1 : decode cX7_size 1 = .ok (.bipush 9, 2) := by decide +kernel
theorem dX7_size_3 : decode cX7_size 3 = .ok (.if_icmp .le 7, 3) := by decide +kernel
theorem dX7_size_6 : decode cX7_size 6 = .ok (.iconst 2, 1) := by decide +kernel
theorem dX7_size_7 : decode cX7_size 7 = .ok (.goto 4, 3) := by decide +kernel
theorem dX7_size_10 : decode cX7_size 10 = .ok (.iconst 1, 1) := by decide +kernel
theorem dX7_size_11 : decode cX7_size 11 = .ok (.ireturn, 1) := by decide +kernel
set_option maxRecDepth 20000 in
theorem ggX7_write_X7_whereIs : GoodIn wsX7_write wsX7_whereIs := goodIn_r _ [8] (by decide +kernel) (by decide +kernel)
set_option maxRecDepth 20000 in
theorem gX7_write_X7_whereIs : GoodIn wsX7_write (va_wsS RX7 43 yX7_whereIs wsX7_whereIs) := goodIn_app (goodIn_of _ (by decide +kernel)) ggX7_write_X7_whereIs
set_option maxRecDepth 20000 in
theorem ggX7_write_X7_size : GoodIn wsX7_write wsX7_size := goodIn_r _ [11] (by decide +kernel) (by decide +kernel)
set_option maxRecDepth 20000 in
theorem gX7_write_X7_size : GoodIn wsX7_write (va_wsS RX7 145 yX7_size wsX7_size) := goodIn_app (goodIn_of _ (by decide +kernel)) ggX7_write_X7_size
set_option maxRecDepth 20000 in
theorem ggX7_write_X7_writeNumber : GoodIn wsX7_write wsX7_writeNumber := goodIn_r _ [15, 4, 2, 16, 17, 18, 19, 20, 21, 22, 23, 24, 25, 26, 27, 28, 29] (by decide +kernel) (by decide +kernel)
set_option maxRecDepth 20000 in
theorem gX7_write_X7_writeNumber : GoodIn wsX7_write (wsV RX7 148 RX7 yX7_writeNumber wsX7_writeNumber) := goodIn_app (goodIn_of _ (by decide +kernel)) ggX7_write_X7_writeNumber
theorem dX7_write_0 : decode cX7_write 0 = .ok (.aload_n 0, 1) := by decide +kernel
theorem dX7_write_1 : decode cX7_write 1 = .ok (.iconst 0, 1) := by decide +kernel
theorem dX7_write_2 : decode cX7_write 2 = .ok (.putfield 35, 3) := by decide +kernel
theorem dX7_write_5 : decode cX7_write 5 = .ok (.aload_n 0, 1) := by decide +kernel
theorem dX7_write_6 : decode cX7_write 6 = .ok (.iconst 0, 1) := by decide +kernel
theorem dX7_write_7 : decode cX7_write 7 = .ok (.putfield 117, 3) := by decide +kernel
theorem dX7_write_10 : decode cX7_write 10 = .ok (.iconst 0, 1) := by decide +kernel
theorem dX7_write_11 : decode cX7_write 11 = .ok (.istore_n 1, 1) := by decide +kernel
theorem dX7_write_12 : decode cX7_write 12 = .ok (.aload_n 0, 1) := by decide +kernel
theorem dX7_write_13 : decode cX7_write 13 = .ok (.getfield 7, 3) := by decide +kernel
theorem dX7_write_16 : decode cX7_write 16 = .ok (.iconst 5, 1) := by decide +kernel
theorem dX7_write_17 : decode cX7_write 17 = .ok (.iaload, 1) := by decide +kernel
theorem dX7_write_18 : decode cX7_write 18 = .ok (.aload_n 0, 1) := by decide +kernel
theorem dX7_write_19 : decode cX7_write 19 = .ok (.getfield 7, 3) := by decide +kernel
theorem dX7_write_22 : decode cX7_write 22 = .ok (.bipush 6, 2) := by decide +kernel
theorem dX7_write_24 : decode cX7_write 24 = .ok (.iaload, 1) := by decide +kernel
theorem dX7_write_25 : decode cX7_write 25 = .ok (.iadd, 1) := by decide +kernel
theorem dX7_write_26 : decode cX7_write 26 = .ok (.istore_n 2, 1) := by decide +kernel
theorem dX7_write_27 : decode cX7_write 27 = .ok (.iconst 1, 1) := by decide +kernel
theorem dX7_write_28 : decode cX7_write 28 = .ok (.istore_n 3, 1) := by decide +kernel
theorem dX7_write_29 : decode cX7_write 29 = .ok (.iload_n 1, 1) := by decide +kernel
theorem dX7_write_30 : decode cX7_write 30 = .ok (.iload_n 2, 1) := by decide +kernel
theorem dX7_write_31 : decode cX7_write 31 = .ok (.if_icmp .ge 283, 3) := by decide +kernel
theorem dX7_write_34 : decode cX7_write 34 = .ok (.iload_n 3, 1) := by decide +kernel
theorem dX7_write_35 : decode cX7_write 35 = .ok (.ifCond .eq 279, 3) := by decide +kernel
theorem dX7_write_38 : decode cX7_write 38 = .ok (.iload_n 1, 1) := by decide +kernel
theorem dX7_write_39 : decode cX7_write 39 = .ok (.aload_n 0, 1) := by decide +kernel
theorem dX7_write_40 : decode cX7_write 40 = .ok (.getfield 7, 3) := by decide +kernel
theorem dX7_write_43 : decode cX7_write 43 = .ok (.iconst 5, 1) := by decide +kernel
theorem dX7_write_44 : decode cX7_write 44 = .ok (.iaload, 1) := by decide +kernel
theorem dX7_write_45 : decode cX7_write 45 = .ok (.if_icmp .ge 7, 3) := by decide +kernel
theorem dX7_write_48 : decode cX7_write 48 = .ok (.iconst 1, 1) := by decide +kernel
theorem dX7_write_49 : decode cX7_write 49 = .ok (.goto 4, 3) := by decide +kernel
theorem dX7_write_52 : decode cX7_write 52 = .ok (.iconst 0, 1) := by decide +kernel
theorem dX7_write_53 : decode cX7_write 53 = .ok (.istore 4, 2) := by decide +kernel
theorem dX7_write_55 : decode cX7_write 55 = .ok (.iload 4, 2) := by decide +kernel
theorem dX7_write_57 : decode cX7_write 57 = .ok (.iload 4, 2) := by decide +kernel
theorem dX7_write_59 : decode cX7_write 59 = .ok (.ifCond .eq 7, 3) := by decide +kernel
theorem dX7_write_62 : decode cX7_write 62 = .ok (.iload_n 1, 1) := by decide +kernel
theorem dX7_write_63 : decode cX7_write 63 = .ok (.goto 11, 3) := by decide +kernel
theorem dX7_write_66 : decode cX7_write 66 = .ok (.iload_n 1, 1) := by decide +kernel
theorem dX7_write_67 : decode cX7_write 67 = .ok (.aload_n 0, 1) := by decide +kernel
theorem dX7_write_68 : decode cX7_write 68 = .ok (.getfield 7, 3) := by decide +kernel
theorem dX7_write_71 : decode cX7_write 71 = .ok (.iconst 5, 1) := by decide +kernel
theorem dX7_write_72 : decode cX7_write 72 = .ok (.iaload, 1) := by decide +kernel
theorem dX7_write_73 : decode cX7_write 73 = .ok (.isub, 1) := by decide +kernel
theorem dX7_write_74 : decode cX7_write 74 = .ok (.invokestatic 43, 3) := by decide +kernel
theorem dX7_write_77 : decode cX7_write 77 = .ok (.istore 5, 2) := by decide +kernel
theorem dX7_write_79 : decode cX7_write 79 = .ok (.iload_n 1, 1) := by decide +kernel
theorem dX7_write_80 : decode cX7_write 80 = .ok (.ifCond .le 7, 3) := by decide +kernel
theorem dX7_write_83 : decode cX7_write 83 = .ok (.iconst 1, 1) := by decide +kernel
theorem dX7_write_84 : decode cX7_write 84 = .ok (.goto 4, 3) := by decide +kernel
theorem dX7_write_87 : decode cX7_write 87 = .ok (.iconst 0, 1) := by decide +kernel
theorem dX7_write_88 : decode cX7_write 88 = .ok (.iconst 3, 1) := by decide +kernel
theorem dX7_write_89 : decode cX7_write 89 = .ok (.iadd, 1) := by decide +kernel
theorem dX7_write_90 : decode cX7_write 90 = .ok (.aload_n 0, 1) := by decide +kernel
theorem dX7_write_91 : decode cX7_write 91 = .ok (.getfield 7, 3) := by decide +kernel
theorem dX7_write_94 : decode cX7_write 94 = .ok (.iload 5, 2) := by decide +kernel
theorem dX7_write_96 : decode cX7_write 96 = .ok (.iconst 0, 1) := by decide +kernel
theorem dX7_write_97 : decode cX7_write 97 = .ok (.iadd, 1) := by decide +kernel
theorem dX7_write_98 : decode cX7_write 98 = .ok (.iaload, 1) := by decide +kernel
theorem dX7_write_99 : decode cX7_write 99 = .ok (.invokestatic 145, 3) := by decide +kernel
theorem dX7_write_102 : decode cX7_write 102 = .ok (.iadd, 1) := by decide +kernel
theorem dX7_write_103 : decode cX7_write 103 = .ok (.aload_n 0, 1) := by decide +kernel
theorem dX7_write_104 : decode cX7_write 104 = .ok (.getfield 7, 3) := by decide +kernel
theorem dX7_write_107 : decode cX7_write 107 = .ok (.iload 5, 2) := by decide +kernel
theorem dX7_write_109 : decode cX7_write 109 = .ok (.iconst 1, 1) := by decide +kernel
theorem dX7_write_110 : decode cX7_write 110 = .ok (.iadd, 1) := by decide +kernel
theorem dX7_write_111 : decode cX7_write 111 = .ok (.iaload, 1) := by decide +kernel
theorem dX7_write_112 : decode cX7_write 112 = .ok (.invokestatic 145, 3) := by decide +kernel
theorem dX7_write_115 : decode cX7_write 115 = .ok (.iadd, 1) := by decide +kernel
theorem dX7_write_116 : decode cX7_write 116 = .ok (.aload_n 0, 1) := by decide +kernel
theorem dX7_write_117 : decode cX7_write 117 = .ok (.getfield 7, 3) := by decide +kernel
theorem dX7_write_120 : decode cX7_write 120 = .ok (.iload 5, 2) := by decide +kernel
theorem dX7_write_122 : decode cX7_write 122 = .ok (.iconst 2, 1) := by decide +kernel
theorem dX7_write_123 : decode cX7_write 123 = .ok (.iadd, 1) := by decide +kernel
theorem dX7_write_124 : decode cX7_write 124 = .ok (.iaload, 1) := by decide +kernel
theorem dX7_write_125 : decode cX7_write 125 = .ok (.invokestatic 145, 3) := by decide +kernel
theorem dX7_write_128 : decode cX7_write 128 = .ok (.iadd, 1) := by decide +kernel
theorem dX7_write_129 : decode cX7_write 129 = .ok (.istore 6, 2) := by decide +kernel
theorem dX7_write_131 : decode cX7_write 131 = .ok (.aload_n 0, 1) := by decide +kernel
theorem dX7_write_132 : decode cX7_write 132 = .ok (.getfield 117, 3) := by decide +kernel
theorem dX7_write_135 : decode cX7_write 135 = .ok (.iload 6, 2) := by decide +kernel
theorem dX7_write_137 : decode cX7_write 137 = .ok (.iadd, 1) := by decide +kernel
theorem dX7_write_138 : decode cX7_write 138 = .ok (.bipush 80, 2) := by decide +kernel
theorem dX7_write_140 : decode cX7_write 140 = .ok (.if_icmp .gt 7, 3) := by decide +kernel
theorem dX7_write_143 : decode cX7_write 143 = .ok (.iconst 1, 1) := by decide +kernel
theorem dX7_write_144 : decode cX7_write 144 = .ok (.goto 4, 3) := by decide +kernel
theorem dX7_write_147 : decode cX7_write 147 = .ok (.iconst 0, 1) := by decide +kernel
theorem dX7_write_148 : decode cX7_write 148 = .ok (.istore_n 3, 1) := by decide +kernel
theorem dX7_write_149 : decode cX7_write 149 = .ok (.iload_n 3, 1) := by decide +kernel
theorem dX7_write_150 : decode cX7_write 150 = .ok (.ifCond .eq 161, 3) := by decide +kernel
theorem dX7_write_153 : decode cX7_write 153 = .ok (.iload_n 1, 1) := by decide +kernel
theorem dX7_write_154 : decode cX7_write 154 = .ok (.ifCond .le 24, 3) := by decide +kernel
theorem dX7_write_157 : decode cX7_write 157 = .ok (.aload_n 0, 1) := by decide +kernel
theorem dX7_write_158 : decode cX7_write 158 = .ok (.getfield 23, 3) := by decide +kernel
theorem dX7_write_161 : decode cX7_write 161 = .ok (.aload_n 0, 1) := by decide +kernel
theorem dX7_write_162 : decode cX7_write 162 = .ok (.getfield 117, 3) := by decide +kernel
theorem dX7_write_165 : decode cX7_write 165 = .ok (.bipush 59, 2) := by decide +kernel
theorem dX7_write_167 : decode cX7_write 167 = .ok (.iastore, 1) := by decide +kernel
theorem dX7_write_168 : decode cX7_write 168 = .ok (.aload_n 0, 1) := by decide +kernel
theorem dX7_write_169 : decode cX7_write 169 = .ok (.dup, 1) := by decide +kernel
theorem dX7_write_170 : decode cX7_write 170 = .ok (.getfield 117, 3) := by decide +kernel
theorem dX7_write_173 : decode cX7_write 173 = .ok (.iconst 1, 1) := by decide +kernel
theorem dX7_write_174 : decode cX7_write 174 = .ok (.iadd, 1) := by decide +kernel
theorem dX7_write_175 : decode cX7_write 175 = .ok (.putfield 117, 3) := by decide +kernel
theorem dX7_write_178 : decode cX7_write 178 = .ok (.aload_n 0, 1) := by decide +kernel
theorem dX7_write_179 : decode cX7_write 179 = .ok (.getfield 23, 3) := by decide +kernel
theorem dX7_write_182 : decode cX7_write 182 = .ok (.aload_n 0, 1) := by decide +kernel
theorem dX7_write_183 : decode cX7_write 183 = .ok (.getfield 117, 3) := by decide +kernel
theorem dX7_write_186 : decode cX7_write 186 = .ok (.iload 4, 2) := by decide +kernel
theorem dX7_write_188 : decode cX7_write 188 = .ok (.ifCond .eq 8, 3) := by decide +kernel
theorem dX7_write_191 : decode cX7_write 191 = .ok (.bipush 119, 2) := by decide +kernel
theorem dX7_write_193 : decode cX7_write 193 = .ok (.goto 23, 3) := by decide +kernel
theorem dX7_write_196 : decode cX7_write 196 = .ok (.aload_n 0, 1) := by decide +kernel
theorem dX7_write_197 : decode cX7_write 197 = .ok (.getfield 7, 3) := by decide +kernel
theorem dX7_write_200 : decode cX7_write 200 = .ok (.iload 5, 2) := by decide +kernel
theorem dX7_write_202 : decode cX7_write 202 = .ok (.iconst 3, 1) := by decide +kernel
theorem dX7_write_203 : decode cX7_write 203 = .ok (.iadd, 1) := by decide +kernel
theorem dX7_write_204 : decode cX7_write 204 = .ok (.iaload, 1) := by decide +kernel
theorem dX7_write_205 : decode cX7_write 205 = .ok (.iconst 1, 1) := by decide +kernel
theorem dX7_write_206 : decode cX7_write 206 = .ok (.if_icmp .ne 8, 3) := by decide +kernel
theorem dX7_write_209 : decode cX7_write 209 = .ok (.bipush 78, 2) := by decide +kernel
theorem dX7_write_211 : decode cX7_write 211 = .ok (.goto 5, 3) := by decide +kernel
theorem dX7_write_214 : decode cX7_write 214 = .ok (.bipush 110, 2) := by decide +kernel
theorem dX7_write_216 : decode cX7_write 216 = .ok (.iastore, 1) := by decide +kernel
theorem dX7_write_217 : decode cX7_write 217 = .ok (.aload_n 0, 1) := by decide +kernel
theorem dX7_write_218 : decode cX7_write 218 = .ok (.dup, 1) := by decide +kernel
theorem dX7_write_219 : decode cX7_write 219 = .ok (.getfield 117, 3) := by decide +kernel
theorem dX7_write_222 : decode cX7_write 222 = .ok (.iconst 1, 1) := by decide +kernel
theorem dX7_write_223 : decode cX7_write 223 = .ok (.iadd, 1) := by decide +kernel
theorem dX7_write_224 : decode cX7_write 224 = .ok (.putfield 117, 3) := by decide +kernel
theorem dX7_write_227 : decode cX7_write 227 = .ok (.aload_n 0, 1) := by decide +kernel
theorem dX7_write_228 : decode cX7_write 228 = .ok (.aload_n 0, 1) := by decide +kernel
theorem dX7_write_229 : decode cX7_write 229 = .ok (.getfield 7, 3) := by decide +kernel
theorem dX7_write_232 : decode cX7_write 232 = .ok (.iload 5, 2) := by decide +kernel
theorem dX7_write_234 : decode cX7_write 234 = .ok (.iconst 0, 1) := by decide +kernel
theorem dX7_write_235 : decode cX7_write 235 = .ok (.iadd, 1) := by decide +kernel
theorem dX7_write_236 : decode cX7_write 236 = .ok (.iaload, 1) := by decide +kernel
theorem dX7_write_237 : decode cX7_write 237 = .ok (.invokevirtual 148, 3) := by decide +kernel
theorem dX7_write_240 : decode cX7_write 240 = .ok (.aload_n 0, 1) := by decide +kernel
theorem dX7_write_241 : decode cX7_write 241 = .ok (.getfield 23, 3) := by decide +kernel
theorem dX7_write_244 : decode cX7_write 244 = .ok (.aload_n 0, 1) := by decide +kernel
theorem dX7_write_245 : decode cX7_write 245 = .ok (.getfield 117, 3) := by decide +kernel
theorem dX7_write_248 : decode cX7_write 248 = .ok (.bipush 43, 2) := by decide +kernel
theorem dX7_write_250 : decode cX7_write 250 = .ok (.iastore, 1) := by decide +kernel
theorem dX7_write_251 : decode cX7_write 251 = .ok (.aload_n 0, 1) := by decide +kernel
theorem dX7_write_252 : decode cX7_write 252 = .ok (.dup, 1) := by decide +kernel
theorem dX7_write_253 : decode cX7_write 253 = .ok (.getfield 117, 3) := by decide +kernel
theorem dX7_write_256 : decode cX7_write 256 = .ok (.iconst 1, 1) := by decide +kernel
theorem dX7_write_257 : decode cX7_write 257 = .ok (.iadd, 1) := by decide +kernel
theorem dX7_write_258 : decode cX7_write 258 = .ok (.putfield 117, 3) := by decide +kernel
theorem dX7_write_261 : decode cX7_write 261 = .ok (.aload_n 0, 1) := by decide +kernel
theorem dX7_write_262 : decode cX7_write 262 = .ok (.aload_n 0, 1) := by decide +kernel
theorem dX7_write_263 : decode cX7_write 263 = .ok (.getfield 7, 3) := by decide +kernel
theorem dX7_write_266 : decode cX7_write 266 = .ok (.iload 5, 2) := by decide +kernel
theorem dX7_write_268 : decode cX7_write 268 = .ok (.iconst 1, 1) := by decide +kernel
theorem dX7_write_269 : decode cX7_write 269 = .ok (.iadd, 1) := by decide +kernel
theorem dX7_write_270 : decode cX7_write 270 = .ok (.iaload, 1) := by decide +kernel
theorem dX7_write_271 : decode cX7_write 271 = .ok (.invokevirtual 148, 3) := by decide +kernel
theorem dX7_write_274 : decode cX7_write 274 = .ok (.aload_n 0, 1) := by decide +kernel
theorem dX7_write_275 : decode cX7_write 275 = .ok (.getfield 23, 3) := by decide +kernel
theorem dX7_write_278 : decode cX7_write 278 = .ok (.aload_n 0, 1) := by decide +kernel
theorem dX7_write_279 : decode cX7_write 279 = .ok (.getfield 117, 3) := by decide +kernel
theorem dX7_write_282 : decode cX7_write 282 = .ok (.bipush 64, 2) := by decide +kernel
theorem dX7_write_284 : decode cX7_write 284 = .ok (.iastore, 1) := by decide +kernel
theorem dX7_write_285 : decode cX7_write 285 = .ok (.aload_n 0, 1) := by decide +kernel
theorem dX7_write_286 : decode cX7_write 286 = .ok (.dup, 1) := by decide +kernel
theorem dX7_write_287 : decode cX7_write 287 = .ok (.getfield 117, 3) := by decide +kernel
theorem dX7_write_290 : decode cX7_write 290 = .ok (.iconst 1, 1) := by decide +kernel
theorem dX7_write_291 : decode cX7_write 291 = .ok (.iadd, 1) := by decide +kernel
theorem dX7_write_292 : decode cX7_write 292 = .ok (.putfield 117, 3) := by decide +kernel
theorem dX7_write_295 : decode cX7_write 295 = .ok (.aload_n 0, 1) := by decide +kernel
theorem dX7_write_296 : decode cX7_write 296 = .ok (.aload_n 0, 1) := by decide +kernel
theorem dX7_write_297 : decode cX7_write 297 = .ok (.getfield 7, 3) := by decide +kernel
theorem dX7_write_300 : decode cX7_write 300 = .ok (.iload 5, 2) := by decide +kernel
theorem dX7_write_302 : decode cX7_write 302 = .ok (.iconst 2, 1) := by decide +kernel
theorem dX7_write_303 : decode cX7_write 303 = .ok (.iadd, 1) := by decide +kernel
theorem dX7_write_304 : decode cX7_write 304 = .ok (.iaload, 1) := by decide +kernel
theorem dX7_write_305 : decode cX7_write 305 = .ok (.invokevirtual 148, 3) := by decide +kernel
theorem dX7_write_308 : decode cX7_write 308 = .ok (.iinc 1 1, 3) := by decide +kernel
theorem dX7_write_311 : decode cX7_write 311 = .ok (.goto (-282), 3) := by decide +kernel
theorem dX7_write_314 : decode cX7_write 314 = .ok (.iload_n 1, 1) := by decide +kernel
theorem dX7_write_315 : decode cX7_write 315 = .ok (.ireturn, 1) := by decide +kernel
set_option maxRecDepth 20000 in
theorem ggX7_charAt_X7_holds : GoodIn wsX7_charAt wsX7_holds := goodIn_r _ [7, 8, 9, 10, 11, 12, 13, 14, 15, 16, 17, 18, 19, 20, 21, 22] (by decide +kernel) (by decide +kernel)
set_option maxRecDepth 20000 in
theorem gX7_charAt_X7_holds : GoodIn wsX7_charAt (wsV RX7 95 RX7 yX7_holds wsX7_holds) := goodIn_app (goodIn_of _ (by decide +kernel)) ggX7_charAt_X7_holds
theorem dX7_charAt_0 : decode cX7_charAt 0 = .ok (.aload_n 0, 1) := by decide +kernel
theorem dX7_charAt_1 : decode cX7_charAt 1 = .ok (.iload_n 1, 1) := by decide +kernel
theorem dX7_charAt_2 : decode cX7_charAt 2 = .ok (.ifCond .ge 7, 3) := by decide +kernel
theorem dX7_charAt_5 : decode cX7_charAt 5 = .ok (.iconst 1, 1) := by decide +kernel
theorem dX7_charAt_6 : decode cX7_charAt 6 = .ok (.goto 4, 3) := by decide +kernel
theorem dX7_charAt_9 : decode cX7_charAt 9 = .ok (.iconst 0, 1) := by decide +kernel
theorem dX7_charAt_10 : decode cX7_charAt 10 = .ok (.invokevirtual 95, 3) := by decide +kernel
theorem dX7_charAt_13 : decode cX7_charAt 13 = .ok (.ifCond .ne 7, 3) := by decide +kernel
theorem dX7_charAt_16 : decode cX7_charAt 16 = .ok (.iconst 0, 1) := by decide +kernel
theorem dX7_charAt_17 : decode cX7_charAt 17 = .ok (.goto 21, 3) := by decide +kernel
theorem dX7_charAt_20 : decode cX7_charAt 20 = .ok (.iload_n 1, 1) := by decide +kernel
theorem dX7_charAt_21 : decode cX7_charAt 21 = .ok (.aload_n 0, 1) := by decide +kernel
theorem dX7_charAt_22 : decode cX7_charAt 22 = .ok (.getfield 117, 3) := by decide +kernel
theorem dX7_charAt_25 : decode cX7_charAt 25 = .ok (.if_icmp .ge 12, 3) := by decide +kernel
theorem dX7_charAt_28 : decode cX7_charAt 28 = .ok (.aload_n 0, 1) := by decide +kernel
theorem dX7_charAt_29 : decode cX7_charAt 29 = .ok (.getfield 23, 3) := by decide +kernel
theorem dX7_charAt_32 : decode cX7_charAt 32 = .ok (.iload_n 1, 1) := by decide +kernel
theorem dX7_charAt_33 : decode cX7_charAt 33 = .ok (.iaload, 1) := by decide +kernel
theorem dX7_charAt_34 : decode cX7_charAt 34 = .ok (.goto 4, 3) := by decide +kernel
theorem dX7_charAt_37 : decode cX7_charAt 37 = .ok (.iconst (-1), 1) := by decide +kernel
theorem dX7_charAt_38 : decode cX7_charAt 38 = .ok (.ireturn, 1) := by decide +kernel
set_option maxRecDepth 20000 in
theorem ggX7_undo_X7_holds : GoodIn wsX7_undo wsX7_holds := goodIn_r _ [8, 9, 13, 14, 15, 16, 17, 18, 19, 20, 21, 22, 23, 24, 25, 26] (by decide +kernel) (by decide +kernel)
set_option maxRecDepth 20000 in
theorem gX7_undo_X7_holds : GoodIn wsX7_undo (wsV RX7 95 RX7 yX7_holds wsX7_holds) := goodIn_app (goodIn_of _ (by decide +kernel)) ggX7_undo_X7_holds
set_option maxRecDepth 20000 in
theorem ggX7_undo_X7_copy : GoodIn wsX7_undo wsX7_copy := goodIn_r _ [12] (by decide +kernel) (by decide +kernel)
set_option maxRecDepth 20000 in
theorem gX7_undo_X7_copy : GoodIn wsX7_undo (va_wsS RX7 50 yX7_copy wsX7_copy) := goodIn_app (goodIn_of _ (by decide +kernel)) ggX7_undo_X7_copy
theorem dX7_undo_0 : decode cX7_undo 0 = .ok (.aload_n 0, 1) := by decide +kernel
theorem dX7_undo_1 : decode cX7_undo 1 = .ok (.aload_n 0, 1) := by decide +kernel
theorem dX7_undo_2 : decode cX7_undo 2 = .ok (.getfield 47, 3) := by decide +kernel
theorem dX7_undo_5 : decode cX7_undo 5 = .ok (.ifCond .le 7, 3) := by decide +kernel
theorem dX7_undo_8 : decode cX7_undo 8 = .ok (.iconst 0, 1) := by decide +kernel
theorem dX7_undo_9 : decode cX7_undo 9 = .ok (.goto 4, 3) := by decide +kernel
theorem dX7_undo_12 : decode cX7_undo 12 = .ok (.iconst 1, 1) := by decide +kernel
theorem dX7_undo_13 : decode cX7_undo 13 = .ok (.invokevirtual 95, 3) := by decide +kernel
theorem dX7_undo_16 : decode cX7_undo 16 = .ok (.ifCond .ne 5, 3) := by decide +kernel
theorem dX7_undo_19 : decode cX7_undo 19 = .ok (.iconst 0, 1) := by decide +kernel
theorem dX7_undo_20 : decode cX7_undo 20 = .ok (.ireturn, 1) := by decide +kernel
theorem dX7_undo_21 : decode cX7_undo 21 = .ok (.aload_n 0, 1) := by decide +kernel
theorem dX7_undo_22 : decode cX7_undo 22 = .ok (.dup, 1) := by decide +kernel
theorem dX7_undo_23 : decode cX7_undo 23 = .ok (.getfield 47, 3) := by decide +kernel
theorem dX7_undo_26 : decode cX7_undo 26 = .ok (.iconst 1, 1) := by decide +kernel
theorem dX7_undo_27 : decode cX7_undo 27 = .ok (.isub, 1) := by decide +kernel
theorem dX7_undo_28 : decode cX7_undo 28 = .ok (.putfield 47, 3) := by decide +kernel
theorem dX7_undo_31 : decode cX7_undo 31 = .ok (.aload_n 0, 1) := by decide +kernel
theorem dX7_undo_32 : decode cX7_undo 32 = .ok (.getfield 13, 3) := by decide +kernel
theorem dX7_undo_35 : decode cX7_undo 35 = .ok (.bipush 85, 2) := by decide +kernel
theorem dX7_undo_37 : decode cX7_undo 37 = .ok (.aload_n 0, 1) := by decide +kernel
theorem dX7_undo_38 : decode cX7_undo 38 = .ok (.getfield 47, 3) := by decide +kernel
theorem dX7_undo_41 : decode cX7_undo 41 = .ok (.imul, 1) := by decide +kernel
theorem dX7_undo_42 : decode cX7_undo 42 = .ok (.aload_n 0, 1) := by decide +kernel
theorem dX7_undo_43 : decode cX7_undo 43 = .ok (.getfield 7, 3) := by decide +kernel
theorem dX7_undo_46 : decode cX7_undo 46 = .ok (.iconst 0, 1) := by decide +kernel
theorem dX7_undo_47 : decode cX7_undo 47 = .ok (.invokestatic 50, 3) := by decide +kernel
theorem dX7_undo_50 : decode cX7_undo 50 = .ok (.aload_n 0, 1) := by decide +kernel
theorem dX7_undo_51 : decode cX7_undo 51 = .ok (.getfield 47, 3) := by decide +kernel
theorem dX7_undo_54 : decode cX7_undo 54 = .ok (.ireturn, 1) := by decide +kernel
set_option maxRecDepth 20000 in
theorem ggX7_keep_X7_isSlot : GoodIn wsX7_keep wsX7_isSlot := goodIn_r _ [7, 8, 9, 6, 10] (by decide +kernel) (by decide +kernel)
set_option maxRecDepth 20000 in
theorem gX7_keep_X7_isSlot : GoodIn wsX7_keep (va_wsS RX7 152 yX7_isSlot wsX7_isSlot) := goodIn_app (goodIn_of _ (by decide +kernel)) ggX7_keep_X7_isSlot
set_option maxRecDepth 20000 in
theorem ggX7_keep_X7_holds : GoodIn wsX7_keep wsX7_holds := goodIn_r _ [14, 15, 19, 20, 21, 22, 23, 24, 25, 26, 27, 28, 29, 30, 31, 32] (by decide +kernel) (by decide +kernel)
set_option maxRecDepth 20000 in
theorem gX7_keep_X7_holds : GoodIn wsX7_keep (wsV RX7 95 RX7 yX7_holds wsX7_holds) := goodIn_app (goodIn_of _ (by decide +kernel)) ggX7_keep_X7_holds
set_option maxRecDepth 20000 in
theorem ggX7_keep_X7_copy : GoodIn wsX7_keep wsX7_copy := goodIn_r _ [18] (by decide +kernel) (by decide +kernel)
set_option maxRecDepth 20000 in
theorem gX7_keep_X7_copy : GoodIn wsX7_keep (va_wsS RX7 50 yX7_copy wsX7_copy) := goodIn_app (goodIn_of _ (by decide +kernel)) ggX7_keep_X7_copy
theorem dX7_keep_0 : decode cX7_keep 0 = .ok (.aload_n 0, 1) := by decide +kernel
theorem dX7_keep_1 : decode cX7_keep 1 = .ok (.iload_n 1, 1) := by decide +kernel
theorem dX7_keep_2 : decode cX7_keep 2 = .ok (.invokestatic 152, 3) := by decide +kernel
theorem dX7_keep_5 : decode cX7_keep 5 = .ok (.ifCond .eq 7, 3) := by decide +kernel
theorem dX7_keep_8 : decode cX7_keep 8 = .ok (.iconst 0, 1) := by decide +kernel
theorem dX7_keep_9 : decode cX7_keep 9 = .ok (.goto 4, 3) := by decide +kernel
theorem dX7_keep_12 : decode cX7_keep 12 = .ok (.iconst 1, 1) := by decide +kernel
theorem dX7_keep_13 : decode cX7_keep 13 = .ok (.invokevirtual 95, 3) := by decide +kernel
theorem dX7_keep_16 : decode cX7_keep 16 = .ok (.ifCond .ne 5, 3) := by decide +kernel
theorem dX7_keep_19 : decode cX7_keep 19 = .ok (.iconst 0, 1) := by decide +kernel
theorem dX7_keep_20 : decode cX7_keep 20 = .ok (.ireturn, 1) := by decide +kernel
theorem dX7_keep_21 : decode cX7_keep 21 = .ok (.aload_n 0, 1) := by decide +kernel
theorem dX7_keep_22 : decode cX7_keep 22 = .ok (.getfield 7, 3) := by decide +kernel
theorem dX7_keep_25 : decode cX7_keep 25 = .ok (.iconst 0, 1) := by decide +kernel
theorem dX7_keep_26 : decode cX7_keep 26 = .ok (.aload_n 0, 1) := by decide +kernel
theorem dX7_keep_27 : decode cX7_keep 27 = .ok (.getfield 16, 3) := by decide +kernel
theorem dX7_keep_30 : decode cX7_keep 30 = .ok (.bipush 85, 2) := by decide +kernel
theorem dX7_keep_32 : decode cX7_keep 32 = .ok (.iload_n 1, 1) := by decide +kernel
theorem dX7_keep_33 : decode cX7_keep 33 = .ok (.imul, 1) := by decide +kernel
theorem dX7_keep_34 : decode cX7_keep 34 = .ok (.invokestatic 50, 3) := by decide +kernel
theorem dX7_keep_37 : decode cX7_keep 37 = .ok (.aload_n 0, 1) := by decide +kernel
theorem dX7_keep_38 : decode cX7_keep 38 = .ok (.getfield 19, 3) := by decide +kernel
theorem dX7_keep_41 : decode cX7_keep 41 = .ok (.iload_n 1, 1) := by decide +kernel
theorem dX7_keep_42 : decode cX7_keep 42 = .ok (.iconst 1, 1) := by decide +kernel
theorem dX7_keep_43 : decode cX7_keep 43 = .ok (.bastore, 1) := by decide +kernel
theorem dX7_keep_44 : decode cX7_keep 44 = .ok (.aload_n 0, 1) := by decide +kernel
theorem dX7_keep_45 : decode cX7_keep 45 = .ok (.getfield 7, 3) := by decide +kernel
theorem dX7_keep_48 : decode cX7_keep 48 = .ok (.iconst 5, 1) := by decide +kernel
theorem dX7_keep_49 : decode cX7_keep 49 = .ok (.iaload, 1) := by decide +kernel
theorem dX7_keep_50 : decode cX7_keep 50 = .ok (.ireturn, 1) := by decide +kernel
set_option maxRecDepth 20000 in
theorem ggX7_goBack_X7_isSlot : GoodIn wsX7_goBack wsX7_isSlot := goodIn_r _ [7, 8, 9, 6, 10] (by decide +kernel) (by decide +kernel)
set_option maxRecDepth 20000 in
theorem gX7_goBack_X7_isSlot : GoodIn wsX7_goBack (va_wsS RX7 152 yX7_isSlot wsX7_isSlot) := goodIn_app (goodIn_of _ (by decide +kernel)) ggX7_goBack_X7_isSlot
set_option maxRecDepth 20000 in
theorem ggX7_goBack_X7_holds : GoodIn wsX7_goBack wsX7_holds := goodIn_r _ [14, 15, 25, 26, 27, 28, 29, 30, 31, 32, 33, 34, 35, 36, 37, 38] (by decide +kernel) (by decide +kernel)
set_option maxRecDepth 20000 in
theorem gX7_goBack_X7_holds : GoodIn wsX7_goBack (wsV RX7 95 RX7 yX7_holds wsX7_holds) := goodIn_app (goodIn_of _ (by decide +kernel)) ggX7_goBack_X7_holds
set_option maxRecDepth 20000 in
theorem ggX7_goBack_X7_save : GoodIn wsX7_goBack wsX7_save := goodIn_r _ [19, 20, 21, 3, 22, 23, 6, 24, 25, 26, 27, 28, 29, 30, 31, 32, 33, 34, 35, 36, 37, 38] (by decide +kernel) (by decide +kernel)
set_option maxRecDepth 20000 in
theorem gX7_goBack_X7_save : GoodIn wsX7_goBack (wsV RX7 99 RX7 yX7_save wsX7_save) := goodIn_app (goodIn_of _ (by decide +kernel)) ggX7_goBack_X7_save
set_option maxRecDepth 20000 in
theorem ggX7_goBack_X7_copy : GoodIn wsX7_goBack wsX7_copy := goodIn_r _ [24] (by decide +kernel) (by decide +kernel)
set_option maxRecDepth 20000 in
theorem gX7_goBack_X7_copy : GoodIn wsX7_goBack (va_wsS RX7 50 yX7_copy wsX7_copy) := goodIn_app (goodIn_of _ (by decide +kernel)) ggX7_goBack_X7_copy
theorem dX7_goBack_0 : decode cX7_goBack 0 = .ok (.aload_n 0, 1) := by decide +kernel
theorem dX7_goBack_1 : decode cX7_goBack 1 = .ok (.iload_n 1, 1) := by decide +kernel
theorem dX7_goBack_2 : decode cX7_goBack 2 = .ok (.invokestatic 152, 3) := by decide +kernel
theorem dX7_goBack_5 : decode cX7_goBack 5 = .ok (.ifCond .ne 7, 3) := by decide +kernel
theorem dX7_goBack_8 : decode cX7_goBack 8 = .ok (.iconst 1, 1) := by decide +kernel
theorem dX7_goBack_9 : decode cX7_goBack 9 = .ok (.goto 17, 3) := by decide +kernel
theorem dX7_goBack_12 : decode cX7_goBack 12 = .ok (.aload_n 0, 1) := by decide +kernel
theorem dX7_goBack_13 : decode cX7_goBack 13 = .ok (.getfield 19, 3) := by decide +kernel
theorem dX7_goBack_16 : decode cX7_goBack 16 = .ok (.iload_n 1, 1) := by decide +kernel
theorem dX7_goBack_17 : decode cX7_goBack 17 = .ok (.baload, 1) := by decide +kernel
theorem dX7_goBack_18 : decode cX7_goBack 18 = .ok (.ifCond .eq 7, 3) := by decide +kernel
theorem dX7_goBack_21 : decode cX7_goBack 21 = .ok (.iconst 0, 1) := by decide +kernel
theorem dX7_goBack_22 : decode cX7_goBack 22 = .ok (.goto 4, 3) := by decide +kernel
theorem dX7_goBack_25 : decode cX7_goBack 25 = .ok (.iconst 2, 1) := by decide +kernel
theorem dX7_goBack_26 : decode cX7_goBack 26 = .ok (.invokevirtual 95, 3) := by decide +kernel
theorem dX7_goBack_29 : decode cX7_goBack 29 = .ok (.ifCond .ne 5, 3) := by decide +kernel
theorem dX7_goBack_32 : decode cX7_goBack 32 = .ok (.iconst 0, 1) := by decide +kernel
theorem dX7_goBack_33 : decode cX7_goBack 33 = .ok (.ireturn, 1) := by decide +kernel
theorem dX7_goBack_34 : decode cX7_goBack 34 = .ok (.aload_n 0, 1) := by decide +kernel
theorem dX7_goBack_35 : decode cX7_goBack 35 = .ok (.invokevirtual 99, 3) := by decide +kernel
theorem dX7_goBack_38 : decode cX7_goBack 38 = .ok (.aload_n 0, 1) := by decide +kernel
theorem dX7_goBack_39 : decode cX7_goBack 39 = .ok (.getfield 16, 3) := by decide +kernel
theorem dX7_goBack_42 : decode cX7_goBack 42 = .ok (.bipush 85, 2) := by decide +kernel
theorem dX7_goBack_44 : decode cX7_goBack 44 = .ok (.iload_n 1, 1) := by decide +kernel
theorem dX7_goBack_45 : decode cX7_goBack 45 = .ok (.imul, 1) := by decide +kernel
theorem dX7_goBack_46 : decode cX7_goBack 46 = .ok (.aload_n 0, 1) := by decide +kernel
theorem dX7_goBack_47 : decode cX7_goBack 47 = .ok (.getfield 7, 3) := by decide +kernel
theorem dX7_goBack_50 : decode cX7_goBack 50 = .ok (.iconst 0, 1) := by decide +kernel
theorem dX7_goBack_51 : decode cX7_goBack 51 = .ok (.invokestatic 50, 3) := by decide +kernel
theorem dX7_goBack_54 : decode cX7_goBack 54 = .ok (.aload_n 0, 1) := by decide +kernel
theorem dX7_goBack_55 : decode cX7_goBack 55 = .ok (.getfield 7, 3) := by decide +kernel
theorem dX7_goBack_58 : decode cX7_goBack 58 = .ok (.iconst 5, 1) := by decide +kernel
theorem dX7_goBack_59 : decode cX7_goBack 59 = .ok (.iaload, 1) := by decide +kernel
theorem dX7_goBack_60 : decode cX7_goBack 60 = .ok (.ireturn, 1) := by decide +kernel
set_option maxRecDepth 20000 in
theorem ggX7_firstMasked_X7_has : GoodIn wsX7_firstMasked wsX7_has := goodIn_r _ [5] (by decide +kernel) (by decide +kernel)
set_option maxRecDepth 20000 in
theorem gX7_firstMasked_X7_has : GoodIn wsX7_firstMasked (va_wsS RX7 65 yX7_has wsX7_has) := goodIn_app (goodIn_of _ (by decide +kernel)) ggX7_firstMasked_X7_has
theorem dX7_firstMasked_0 : decode cX7_firstMasked 0 = .ok (.iconst (-1), 1) := by decide +kernel
theorem dX7_firstMasked_1 : decode cX7_firstMasked 1 = .ok (.istore_n 2, 1) := by decide +kernel
theorem dX7_firstMasked_2 : decode cX7_firstMasked 2 = .ok (.bipush 119, 2) := by decide +kernel
theorem dX7_firstMasked_4 : decode cX7_firstMasked 4 = .ok (.istore_n 3, 1) := by decide +kernel
theorem dX7_firstMasked_5 : decode cX7_firstMasked 5 = .ok (.iload_n 3, 1) := by decide +kernel
theorem dX7_firstMasked_6 : decode cX7_firstMasked 6 = .ok (.ifCond .lt 28, 3) := by decide +kernel
theorem dX7_firstMasked_9 : decode cX7_firstMasked 9 = .ok (.aload_n 0, 1) := by decide +kernel
theorem dX7_firstMasked_10 : decode cX7_firstMasked 10 = .ok (.getfield 29, 3) := by decide +kernel
theorem dX7_firstMasked_13 : decode cX7_firstMasked 13 = .ok (.iload_n 3, 1) := by decide +kernel
theorem dX7_firstMasked_14 : decode cX7_firstMasked 14 = .ok (.iaload, 1) := by decide +kernel
theorem dX7_firstMasked_15 : decode cX7_firstMasked 15 = .ok (.iload_n 1, 1) := by decide +kernel
theorem dX7_firstMasked_16 : decode cX7_firstMasked 16 = .ok (.invokestatic 65, 3) := by decide +kernel
theorem dX7_firstMasked_19 : decode cX7_firstMasked 19 = .ok (.ifCond .eq 7, 3) := by decide +kernel
theorem dX7_firstMasked_22 : decode cX7_firstMasked 22 = .ok (.iload_n 3, 1) := by decide +kernel
theorem dX7_firstMasked_23 : decode cX7_firstMasked 23 = .ok (.goto 4, 3) := by decide +kernel
theorem dX7_firstMasked_26 : decode cX7_firstMasked 26 = .ok (.iload_n 2, 1) := by decide +kernel
theorem dX7_firstMasked_27 : decode cX7_firstMasked 27 = .ok (.istore_n 2, 1) := by decide +kernel
theorem dX7_firstMasked_28 : decode cX7_firstMasked 28 = .ok (.iinc 3 (-1), 3) := by decide +kernel
theorem dX7_firstMasked_31 : decode cX7_firstMasked 31 = .ok (.goto (-26), 3) := by decide +kernel
theorem dX7_firstMasked_34 : decode cX7_firstMasked 34 = .ok (.iload_n 2, 1) := by decide +kernel
theorem dX7_firstMasked_35 : decode cX7_firstMasked 35 = .ok (.ireturn, 1) := by decide +kernel
set_option maxRecDepth 20000 in
theorem ggX7_greatestCover_X7_ofWord : GoodIn wsX7_greatestCover wsX7_ofWord := goodIn_r _ [5, 6, 41, 42, 43, 44, 45, 46, 47, 48, 49, 50, 51, 52, 53, 54] (by decide +kernel) (by decide +kernel)
set_option maxRecDepth 20000 in
theorem gX7_greatestCover_X7_ofWord : GoodIn wsX7_greatestCover (wsV RX7 69 RX7 yX7_ofWord wsX7_ofWord) := goodIn_app (goodIn_of _ (by decide +kernel)) ggX7_greatestCover_X7_ofWord
set_option maxRecDepth 20000 in
theorem ggX7_greatestCover_X7_cover : GoodIn wsX7_greatestCover wsX7_cover := goodIn_r _ [10, 11, 12, 13, 4, 14, 6, 15, 16, 17, 18, 19, 20, 21, 22, 23, 24, 25, 26, 27, 28, 29, 30, 31, 32, 33, 34, 35, 36, 37, 38, 39, 40, 1, 2, 3, 5, 41, 42, 43, 44, 45, 46, 47, 48, 49, 50, 51, 52, 53, 54] (by decide +kernel) (by decide +kernel)
set_option maxRecDepth 20000 in
theorem gX7_greatestCover_X7_cover : GoodIn wsX7_greatestCover (wsV RX7 79 RX7 yX7_cover wsX7_cover) := goodIn_app (goodIn_of _ (by decide +kernel)) ggX7_greatestCover_X7_cover
theorem dX7_greatestCover_0 : decode cX7_greatestCover 0 = .ok (.iconst 0, 1) := by decide +kernel
theorem dX7_greatestCover_1 : decode cX7_greatestCover 1 = .ok (.istore_n 2, 1) := by decide +kernel
theorem dX7_greatestCover_2 : decode cX7_greatestCover 2 = .ok (.aload_n 0, 1) := by decide +kernel
theorem dX7_greatestCover_3 : decode cX7_greatestCover 3 = .ok (.iload_n 1, 1) := by decide +kernel
theorem dX7_greatestCover_4 : decode cX7_greatestCover 4 = .ok (.iconst 0, 1) := by decide +kernel
theorem dX7_greatestCover_5 : decode cX7_greatestCover 5 = .ok (.invokevirtual 69, 3) := by decide +kernel
theorem dX7_greatestCover_8 : decode cX7_greatestCover 8 = .ok (.istore_n 3, 1) := by decide +kernel
theorem dX7_greatestCover_9 : decode cX7_greatestCover 9 = .ok (.iload_n 3, 1) := by decide +kernel
theorem dX7_greatestCover_10 : decode cX7_greatestCover 10 = .ok (.aload_n 0, 1) := by decide +kernel
theorem dX7_greatestCover_11 : decode cX7_greatestCover 11 = .ok (.iload_n 1, 1) := by decide +kernel
theorem dX7_greatestCover_12 : decode cX7_greatestCover 12 = .ok (.iconst 0, 1) := by decide +kernel
theorem dX7_greatestCover_13 : decode cX7_greatestCover 13 = .ok (.invokevirtual 69, 3) := by decide +kernel
theorem dX7_greatestCover_16 : decode cX7_greatestCover 16 = .ok (.aload_n 0, 1) := by decide +kernel
theorem dX7_greatestCover_17 : decode cX7_greatestCover 17 = .ok (.iload_n 1, 1) := by decide +kernel
theorem dX7_greatestCover_18 : decode cX7_greatestCover 18 = .ok (.iconst 1, 1) := by decide +kernel
theorem dX7_greatestCover_19 : decode cX7_greatestCover 19 = .ok (.invokevirtual 69, 3) := by decide +kernel
theorem dX7_greatestCover_22 : decode cX7_greatestCover 22 = .ok (.iadd, 1) := by decide +kernel
theorem dX7_greatestCover_23 : decode cX7_greatestCover 23 = .ok (.if_icmp .ge 30, 3) := by decide +kernel
theorem dX7_greatestCover_26 : decode cX7_greatestCover 26 = .ok (.aload_n 0, 1) := by decide +kernel
theorem dX7_greatestCover_27 : decode cX7_greatestCover 27 = .ok (.iload_n 1, 1) := by decide +kernel
theorem dX7_greatestCover_28 : decode cX7_greatestCover 28 = .ok (.iload_n 3, 1) := by decide +kernel
theorem dX7_greatestCover_29 : decode cX7_greatestCover 29 = .ok (.invokevirtual 79, 3) := by decide +kernel
theorem dX7_greatestCover_32 : decode cX7_greatestCover 32 = .ok (.istore 4, 2) := by decide +kernel
theorem dX7_greatestCover_34 : decode cX7_greatestCover 34 = .ok (.iload 4, 2) := by decide +kernel
theorem dX7_greatestCover_36 : decode cX7_greatestCover 36 = .ok (.iload_n 2, 1) := by decide +kernel
theorem dX7_greatestCover_37 : decode cX7_greatestCover 37 = .ok (.if_icmp .le 8, 3) := by decide +kernel
theorem dX7_greatestCover_40 : decode cX7_greatestCover 40 = .ok (.iload 4, 2) := by decide +kernel
theorem dX7_greatestCover_42 : decode cX7_greatestCover 42 = .ok (.goto 4, 3) := by decide +kernel
theorem dX7_greatestCover_45 : decode cX7_greatestCover 45 = .ok (.iload_n 2, 1) := by decide +kernel
theorem dX7_greatestCover_46 : decode cX7_greatestCover 46 = .ok (.istore_n 2, 1) := by decide +kernel
theorem dX7_greatestCover_47 : decode cX7_greatestCover 47 = .ok (.iinc 3 1, 3) := by decide +kernel
theorem dX7_greatestCover_50 : decode cX7_greatestCover 50 = .ok (.goto (-41), 3) := by decide +kernel
theorem dX7_greatestCover_53 : decode cX7_greatestCover 53 = .ok (.iload_n 2, 1) := by decide +kernel
theorem dX7_greatestCover_54 : decode cX7_greatestCover 54 = .ok (.ireturn, 1) := by decide +kernel
set_option maxRecDepth 20000 in
theorem ggX7_wordOf_X7_isCue : GoodIn wsX7_wordOf wsX7_isCue := goodIn_r _ [6, 1, 7, 8, 5, 9, 67, 68, 69, 70, 71, 72, 73, 74, 75, 76, 77, 78, 79, 80] (by decide +kernel) (by decide +kernel)
set_option maxRecDepth 20000 in
theorem gX7_wordOf_X7_isCue : GoodIn wsX7_wordOf (wsV RX7 106 RX7 yX7_isCue wsX7_isCue) := goodIn_app (goodIn_of _ (by decide +kernel)) ggX7_wordOf_X7_isCue
set_option maxRecDepth 20000 in
theorem ggX7_wordOf_X7_in : GoodIn wsX7_wordOf wsX7_in := goodIn_r _ [9] (by decide +kernel) (by decide +kernel)
set_option maxRecDepth 20000 in
theorem gX7_wordOf_X7_in : GoodIn wsX7_wordOf (va_wsS RX7 39 yX7_in wsX7_in) := goodIn_app (goodIn_of _ (by decide +kernel)) ggX7_wordOf_X7_in
set_option maxRecDepth 20000 in
theorem ggX7_wordOf_X7_holds : GoodIn wsX7_wordOf wsX7_holds := goodIn_r _ [13, 14, 67, 68, 69, 70, 71, 72, 73, 74, 75, 76, 77, 78, 79, 80] (by decide +kernel) (by decide +kernel)
set_option maxRecDepth 20000 in
theorem gX7_wordOf_X7_holds : GoodIn wsX7_wordOf (wsV RX7 95 RX7 yX7_holds wsX7_holds) := goodIn_app (goodIn_of _ (by decide +kernel)) ggX7_wordOf_X7_holds
set_option maxRecDepth 20000 in
theorem ggX7_wordOf_X7_layOut : GoodIn wsX7_wordOf wsX7_layOut := goodIn_r _ [18, 19, 1, 20, 21, 22, 23, 5, 24, 25, 26, 27, 28, 29, 30, 31, 7, 8, 9, 32, 33, 34, 35, 36, 37, 38, 39, 40, 41, 42, 43, 44, 45, 46, 47, 48, 49, 50, 51, 52, 53, 54, 67, 68, 69, 70, 71, 72, 73, 74, 75, 76, 77, 78, 79, 80] (by decide +kernel) (by decide +kernel)
set_option maxRecDepth 20000 in
theorem gX7_wordOf_X7_layOut : GoodIn wsX7_wordOf (wsV RX7 155 RX7 yX7_layOut wsX7_layOut) := goodIn_app (goodIn_of _ (by decide +kernel)) ggX7_wordOf_X7_layOut
set_option maxRecDepth 20000 in
theorem ggX7_wordOf_X7_ofWord : GoodIn wsX7_wordOf wsX7_ofWord := goodIn_r _ [38, 1, 67, 68, 69, 70, 71, 72, 73, 74, 75, 76, 77, 78, 79, 80] (by decide +kernel) (by decide +kernel)
set_option maxRecDepth 20000 in
theorem gX7_wordOf_X7_ofWord : GoodIn wsX7_wordOf (wsV RX7 69 RX7 yX7_ofWord wsX7_ofWord) := goodIn_app (goodIn_of _ (by decide +kernel)) ggX7_wordOf_X7_ofWord
set_option maxRecDepth 20000 in
theorem ggX7_wordOf_X7_maskedOf : GoodIn wsX7_wordOf wsX7_maskedOf := goodIn_r _ [58, 20, 32, 33, 5, 34, 67, 68, 69, 70, 71, 72, 73, 74, 75, 76, 77, 78, 79, 80] (by decide +kernel) (by decide +kernel)
set_option maxRecDepth 20000 in
theorem gX7_wordOf_X7_maskedOf : GoodIn wsX7_wordOf (wsV RX7 85 RX7 yX7_maskedOf wsX7_maskedOf) := goodIn_app (goodIn_of _ (by decide +kernel)) ggX7_wordOf_X7_maskedOf
set_option maxRecDepth 20000 in
theorem ggX7_wordOf_X7_firstMasked : GoodIn wsX7_wordOf wsX7_firstMasked := goodIn_r _ [62, 20, 32, 33, 5, 34, 67, 68, 69, 70, 71, 72, 73, 74, 75, 76, 77, 78, 79, 80] (by decide +kernel) (by decide +kernel)
set_option maxRecDepth 20000 in
theorem gX7_wordOf_X7_firstMasked : GoodIn wsX7_wordOf (wsV RX7 158 RX7 yX7_firstMasked wsX7_firstMasked) := goodIn_app (goodIn_of _ (by decide +kernel)) ggX7_wordOf_X7_firstMasked
set_option maxRecDepth 20000 in
theorem ggX7_wordOf_X7_greatestCover : GoodIn wsX7_wordOf wsX7_greatestCover := goodIn_r _ [66, 35, 36, 37, 5, 38, 1, 39, 40, 41, 42, 21, 22, 23, 24, 25, 26, 27, 28, 29, 30, 31, 7, 8, 9, 43, 44, 45, 46, 47, 48, 49, 50, 19, 51, 52, 53, 54, 32, 33, 34, 67, 68, 69, 70, 71, 72, 73, 74, 75, 76, 77, 78, 79, 80] (by decide +kernel) (by decide +kernel)
set_option maxRecDepth 20000 in
theorem gX7_wordOf_X7_greatestCover : GoodIn wsX7_wordOf (wsV RX7 161 RX7 yX7_greatestCover wsX7_greatestCover) := goodIn_app (goodIn_of _ (by decide +kernel)) ggX7_wordOf_X7_greatestCover
theorem dX7_wordOf_0 : decode cX7_wordOf 0 = .ok (.aload_n 0, 1) := by decide +kernel
theorem dX7_wordOf_1 : decode cX7_wordOf 1 = .ok (.aload_n 0, 1) := by decide +kernel
theorem dX7_wordOf_2 : decode cX7_wordOf 2 = .ok (.iconst 1, 1) := by decide +kernel
theorem dX7_wordOf_3 : decode cX7_wordOf 3 = .ok (.iload_n 1, 1) := by decide +kernel
theorem dX7_wordOf_4 : decode cX7_wordOf 4 = .ok (.invokevirtual 106, 3) := by decide +kernel
theorem dX7_wordOf_7 : decode cX7_wordOf 7 = .ok (.ifCond .ne 7, 3) := by decide +kernel
theorem dX7_wordOf_10 : decode cX7_wordOf 10 = .ok (.iconst 1, 1) := by decide +kernel
theorem dX7_wordOf_11 : decode cX7_wordOf 11 = .ok (.goto 18, 3) := by decide +kernel
theorem dX7_wordOf_14 : decode cX7_wordOf 14 = .ok (.iload_n 2, 1) := by decide +kernel
theorem dX7_wordOf_15 : decode cX7_wordOf 15 = .ok (.iconst 0, 1) := by decide +kernel
theorem dX7_wordOf_16 : decode cX7_wordOf 16 = .ok (.bipush 6, 2) := by decide +kernel
theorem dX7_wordOf_18 : decode cX7_wordOf 18 = .ok (.invokestatic 39, 3) := by decide +kernel
theorem dX7_wordOf_21 : decode cX7_wordOf 21 = .ok (.ifCond .eq 7, 3) := by decide +kernel
theorem dX7_wordOf_24 : decode cX7_wordOf 24 = .ok (.iconst 0, 1) := by decide +kernel
theorem dX7_wordOf_25 : decode cX7_wordOf 25 = .ok (.goto 4, 3) := by decide +kernel
theorem dX7_wordOf_28 : decode cX7_wordOf 28 = .ok (.iconst 2, 1) := by decide +kernel
theorem dX7_wordOf_29 : decode cX7_wordOf 29 = .ok (.invokevirtual 95, 3) := by decide +kernel
theorem dX7_wordOf_32 : decode cX7_wordOf 32 = .ok (.ifCond .ne 5, 3) := by decide +kernel
theorem dX7_wordOf_35 : decode cX7_wordOf 35 = .ok (.iconst 0, 1) := by decide +kernel
theorem dX7_wordOf_36 : decode cX7_wordOf 36 = .ok (.ireturn, 1) := by decide +kernel
theorem dX7_wordOf_37 : decode cX7_wordOf 37 = .ok (.aload_n 0, 1) := by decide +kernel
theorem dX7_wordOf_38 : decode cX7_wordOf 38 = .ok (.invokevirtual 155, 3) := by decide +kernel
theorem dX7_wordOf_41 : decode cX7_wordOf 41 = .ok (.iload_n 2, 1) := by decide +kernel
theorem dX7_wordOf_42 : decode cX7_wordOf 42 = .ok (.tableswitch 75 3 6 #[30, 43, 49, 69], 30) := by decide +kernel
theorem dX7_wordOf_72 : decode cX7_wordOf 72 = .ok (.aload_n 0, 1) := by decide +kernel
theorem dX7_wordOf_73 : decode cX7_wordOf 73 = .ok (.iload_n 1, 1) := by decide +kernel
theorem dX7_wordOf_74 : decode cX7_wordOf 74 = .ok (.iconst 1, 1) := by decide +kernel
theorem dX7_wordOf_75 : decode cX7_wordOf 75 = .ok (.invokevirtual 69, 3) := by decide +kernel
theorem dX7_wordOf_78 : decode cX7_wordOf 78 = .ok (.aload_n 0, 1) := by decide +kernel
theorem dX7_wordOf_79 : decode cX7_wordOf 79 = .ok (.iload_n 1, 1) := by decide +kernel
theorem dX7_wordOf_80 : decode cX7_wordOf 80 = .ok (.invokevirtual 85, 3) := by decide +kernel
theorem dX7_wordOf_83 : decode cX7_wordOf 83 = .ok (.isub, 1) := by decide +kernel
theorem dX7_wordOf_84 : decode cX7_wordOf 84 = .ok (.ireturn, 1) := by decide +kernel
theorem dX7_wordOf_85 : decode cX7_wordOf 85 = .ok (.aload_n 0, 1) := by decide +kernel
theorem dX7_wordOf_86 : decode cX7_wordOf 86 = .ok (.iload_n 1, 1) := by decide +kernel
theorem dX7_wordOf_87 : decode cX7_wordOf 87 = .ok (.invokevirtual 158, 3) := by decide +kernel
theorem dX7_wordOf_90 : decode cX7_wordOf 90 = .ok (.ireturn, 1) := by decide +kernel
theorem dX7_wordOf_91 : decode cX7_wordOf 91 = .ok (.aload_n 0, 1) := by decide +kernel
theorem dX7_wordOf_92 : decode cX7_wordOf 92 = .ok (.iload_n 1, 1) := by decide +kernel
theorem dX7_wordOf_93 : decode cX7_wordOf 93 = .ok (.invokevirtual 85, 3) := by decide +kernel
theorem dX7_wordOf_96 : decode cX7_wordOf 96 = .ok (.aload_n 0, 1) := by decide +kernel
theorem dX7_wordOf_97 : decode cX7_wordOf 97 = .ok (.getfield 7, 3) := by decide +kernel
theorem dX7_wordOf_100 : decode cX7_wordOf 100 = .ok (.iconst 4, 1) := by decide +kernel
theorem dX7_wordOf_101 : decode cX7_wordOf 101 = .ok (.iaload, 1) := by decide +kernel
theorem dX7_wordOf_102 : decode cX7_wordOf 102 = .ok (.if_icmp .gt 7, 3) := by decide +kernel
theorem dX7_wordOf_105 : decode cX7_wordOf 105 = .ok (.iconst 1, 1) := by decide +kernel
theorem dX7_wordOf_106 : decode cX7_wordOf 106 = .ok (.goto 4, 3) := by decide +kernel
theorem dX7_wordOf_109 : decode cX7_wordOf 109 = .ok (.iconst 0, 1) := by decide +kernel
theorem dX7_wordOf_110 : decode cX7_wordOf 110 = .ok (.ireturn, 1) := by decide +kernel
theorem dX7_wordOf_111 : decode cX7_wordOf 111 = .ok (.aload_n 0, 1) := by decide +kernel
theorem dX7_wordOf_112 : decode cX7_wordOf 112 = .ok (.iload_n 1, 1) := by decide +kernel
theorem dX7_wordOf_113 : decode cX7_wordOf 113 = .ok (.invokevirtual 161, 3) := by decide +kernel
theorem dX7_wordOf_116 : decode cX7_wordOf 116 = .ok (.ireturn, 1) := by decide +kernel
theorem dX7_wordOf_117 : decode cX7_wordOf 117 = .ok (.aload_n 0, 1) := by decide +kernel
theorem dX7_wordOf_118 : decode cX7_wordOf 118 = .ok (.iload_n 1, 1) := by decide +kernel
theorem dX7_wordOf_119 : decode cX7_wordOf 119 = .ok (.iload_n 2, 1) := by decide +kernel
theorem dX7_wordOf_120 : decode cX7_wordOf 120 = .ok (.invokevirtual 69, 3) := by decide +kernel
theorem dX7_wordOf_123 : decode cX7_wordOf 123 = .ok (.ireturn, 1) := by decide +kernel
set_option maxRecDepth 20000 in
theorem ggX7_noiseOf_X7_isCue : GoodIn wsX7_noiseOf wsX7_isCue := goodIn_r _ [6, 7, 8, 9, 5, 10, 55, 56, 57, 58, 59, 60, 61, 62, 63, 64, 65, 66, 67, 68] (by decide +kernel) (by decide +kernel)
set_option maxRecDepth 20000 in
theorem gX7_noiseOf_X7_isCue : GoodIn wsX7_noiseOf (wsV RX7 106 RX7 yX7_isCue wsX7_isCue) := goodIn_app (goodIn_of _ (by decide +kernel)) ggX7_noiseOf_X7_isCue
set_option maxRecDepth 20000 in
theorem ggX7_noiseOf_X7_in : GoodIn wsX7_noiseOf wsX7_in := goodIn_r _ [10] (by decide +kernel) (by decide +kernel)
set_option maxRecDepth 20000 in
theorem gX7_noiseOf_X7_in : GoodIn wsX7_noiseOf (va_wsS RX7 39 yX7_in wsX7_in) := goodIn_app (goodIn_of _ (by decide +kernel)) ggX7_noiseOf_X7_in
set_option maxRecDepth 20000 in
theorem ggX7_noiseOf_X7_holds : GoodIn wsX7_noiseOf wsX7_holds := goodIn_r _ [14, 15, 55, 56, 57, 58, 59, 60, 61, 62, 63, 64, 65, 66, 67, 68] (by decide +kernel) (by decide +kernel)
set_option maxRecDepth 20000 in
theorem gX7_noiseOf_X7_holds : GoodIn wsX7_noiseOf (wsV RX7 95 RX7 yX7_holds wsX7_holds) := goodIn_app (goodIn_of _ (by decide +kernel)) ggX7_noiseOf_X7_holds
set_option maxRecDepth 20000 in
theorem ggX7_noiseOf_X7_layOut : GoodIn wsX7_noiseOf wsX7_layOut := goodIn_r _ [19, 20, 7, 1, 21, 22, 23, 5, 24, 25, 26, 27, 28, 29, 30, 31, 8, 9, 10, 32, 33, 34, 35, 36, 37, 38, 39, 40, 41, 42, 43, 44, 45, 46, 47, 48, 49, 50, 51, 52, 53, 54, 55, 56, 57, 58, 59, 60, 61, 62, 63, 64, 65, 66, 67, 68] (by decide +kernel) (by decide +kernel)
set_option maxRecDepth 20000 in
theorem gX7_noiseOf_X7_layOut : GoodIn wsX7_noiseOf (wsV RX7 155 RX7 yX7_layOut wsX7_layOut) := goodIn_app (goodIn_of _ (by decide +kernel)) ggX7_noiseOf_X7_layOut
set_option maxRecDepth 20000 in
theorem ggX7_noiseOf_X7_ofNoise : GoodIn wsX7_noiseOf wsX7_ofNoise := goodIn_r _ [54, 7, 55, 56, 57, 58, 59, 60, 61, 62, 63, 64, 65, 66, 67, 68] (by decide +kernel) (by decide +kernel)
set_option maxRecDepth 20000 in
theorem gX7_noiseOf_X7_ofNoise : GoodIn wsX7_noiseOf (wsV RX7 58 RX7 yX7_ofNoise wsX7_ofNoise) := goodIn_app (goodIn_of _ (by decide +kernel)) ggX7_noiseOf_X7_ofNoise
set_option maxRecDepth 20000 in
theorem ggX7_noiseOf_X7_strength : GoodIn wsX7_noiseOf wsX7_strength := goodIn_r _ [50, 20, 25, 26, 27, 5, 28, 7, 29, 30, 31, 8, 9, 10, 51, 52, 53, 54, 55, 56, 57, 58, 59, 60, 61, 62, 63, 64, 65, 66, 67, 68] (by decide +kernel) (by decide +kernel)
set_option maxRecDepth 20000 in
theorem gX7_noiseOf_X7_strength : GoodIn wsX7_noiseOf (wsV RX7 62 RX7 yX7_strength wsX7_strength) := goodIn_app (goodIn_of _ (by decide +kernel)) ggX7_noiseOf_X7_strength
theorem dX7_noiseOf_0 : decode cX7_noiseOf 0 = .ok (.aload_n 0, 1) := by decide +kernel
theorem dX7_noiseOf_1 : decode cX7_noiseOf 1 = .ok (.aload_n 0, 1) := by decide +kernel
theorem dX7_noiseOf_2 : decode cX7_noiseOf 2 = .ok (.iconst 0, 1) := by decide +kernel
theorem dX7_noiseOf_3 : decode cX7_noiseOf 3 = .ok (.iload_n 1, 1) := by decide +kernel
theorem dX7_noiseOf_4 : decode cX7_noiseOf 4 = .ok (.invokevirtual 106, 3) := by decide +kernel
theorem dX7_noiseOf_7 : decode cX7_noiseOf 7 = .ok (.ifCond .ne 7, 3) := by decide +kernel
theorem dX7_noiseOf_10 : decode cX7_noiseOf 10 = .ok (.iconst 1, 1) := by decide +kernel
theorem dX7_noiseOf_11 : decode cX7_noiseOf 11 = .ok (.goto 18, 3) := by decide +kernel
theorem dX7_noiseOf_14 : decode cX7_noiseOf 14 = .ok (.iload_n 2, 1) := by decide +kernel
theorem dX7_noiseOf_15 : decode cX7_noiseOf 15 = .ok (.iconst 0, 1) := by decide +kernel
theorem dX7_noiseOf_16 : decode cX7_noiseOf 16 = .ok (.bipush 6, 2) := by decide +kernel
theorem dX7_noiseOf_18 : decode cX7_noiseOf 18 = .ok (.invokestatic 39, 3) := by decide +kernel
theorem dX7_noiseOf_21 : decode cX7_noiseOf 21 = .ok (.ifCond .eq 7, 3) := by decide +kernel
theorem dX7_noiseOf_24 : decode cX7_noiseOf 24 = .ok (.iconst 0, 1) := by decide +kernel
theorem dX7_noiseOf_25 : decode cX7_noiseOf 25 = .ok (.goto 4, 3) := by decide +kernel
theorem dX7_noiseOf_28 : decode cX7_noiseOf 28 = .ok (.iconst 2, 1) := by decide +kernel
theorem dX7_noiseOf_29 : decode cX7_noiseOf 29 = .ok (.invokevirtual 95, 3) := by decide +kernel
theorem dX7_noiseOf_32 : decode cX7_noiseOf 32 = .ok (.ifCond .ne 5, 3) := by decide +kernel
theorem dX7_noiseOf_35 : decode cX7_noiseOf 35 = .ok (.iconst 0, 1) := by decide +kernel
theorem dX7_noiseOf_36 : decode cX7_noiseOf 36 = .ok (.ireturn, 1) := by decide +kernel
theorem dX7_noiseOf_37 : decode cX7_noiseOf 37 = .ok (.aload_n 0, 1) := by decide +kernel
theorem dX7_noiseOf_38 : decode cX7_noiseOf 38 = .ok (.invokevirtual 155, 3) := by decide +kernel
theorem dX7_noiseOf_41 : decode cX7_noiseOf 41 = .ok (.iconst 0, 1) := by decide +kernel
theorem dX7_noiseOf_42 : decode cX7_noiseOf 42 = .ok (.istore_n 3, 1) := by decide +kernel
theorem dX7_noiseOf_43 : decode cX7_noiseOf 43 = .ok (.iconst 0, 1) := by decide +kernel
theorem dX7_noiseOf_44 : decode cX7_noiseOf 44 = .ok (.istore 4, 2) := by decide +kernel
theorem dX7_noiseOf_46 : decode cX7_noiseOf 46 = .ok (.iconst 0, 1) := by decide +kernel
theorem dX7_noiseOf_47 : decode cX7_noiseOf 47 = .ok (.istore 5, 2) := by decide +kernel
theorem dX7_noiseOf_49 : decode cX7_noiseOf 49 = .ok (.aload_n 0, 1) := by decide +kernel
theorem dX7_noiseOf_50 : decode cX7_noiseOf 50 = .ok (.iload_n 1, 1) := by decide +kernel
theorem dX7_noiseOf_51 : decode cX7_noiseOf 51 = .ok (.iconst 0, 1) := by decide +kernel
theorem dX7_noiseOf_52 : decode cX7_noiseOf 52 = .ok (.invokevirtual 58, 3) := by decide +kernel
theorem dX7_noiseOf_55 : decode cX7_noiseOf 55 = .ok (.istore 6, 2) := by decide +kernel
theorem dX7_noiseOf_57 : decode cX7_noiseOf 57 = .ok (.iload 6, 2) := by decide +kernel
theorem dX7_noiseOf_59 : decode cX7_noiseOf 59 = .ok (.aload_n 0, 1) := by decide +kernel
theorem dX7_noiseOf_60 : decode cX7_noiseOf 60 = .ok (.iload_n 1, 1) := by decide +kernel
theorem dX7_noiseOf_61 : decode cX7_noiseOf 61 = .ok (.iconst 0, 1) := by decide +kernel
theorem dX7_noiseOf_62 : decode cX7_noiseOf 62 = .ok (.invokevirtual 58, 3) := by decide +kernel
theorem dX7_noiseOf_65 : decode cX7_noiseOf 65 = .ok (.aload_n 0, 1) := by decide +kernel
theorem dX7_noiseOf_66 : decode cX7_noiseOf 66 = .ok (.iload_n 1, 1) := by decide +kernel
theorem dX7_noiseOf_67 : decode cX7_noiseOf 67 = .ok (.iconst 1, 1) := by decide +kernel
theorem dX7_noiseOf_68 : decode cX7_noiseOf 68 = .ok (.invokevirtual 58, 3) := by decide +kernel
theorem dX7_noiseOf_71 : decode cX7_noiseOf 71 = .ok (.iadd, 1) := by decide +kernel
theorem dX7_noiseOf_72 : decode cX7_noiseOf 72 = .ok (.if_icmp .ge 65, 3) := by decide +kernel
theorem dX7_noiseOf_75 : decode cX7_noiseOf 75 = .ok (.iload_n 3, 1) := by decide +kernel
theorem dX7_noiseOf_76 : decode cX7_noiseOf 76 = .ok (.aload_n 0, 1) := by decide +kernel
theorem dX7_noiseOf_77 : decode cX7_noiseOf 77 = .ok (.iload_n 1, 1) := by decide +kernel
theorem dX7_noiseOf_78 : decode cX7_noiseOf 78 = .ok (.iload 6, 2) := by decide +kernel
theorem dX7_noiseOf_80 : decode cX7_noiseOf 80 = .ok (.invokevirtual 62, 3) := by decide +kernel
theorem dX7_noiseOf_83 : decode cX7_noiseOf 83 = .ok (.iadd, 1) := by decide +kernel
theorem dX7_noiseOf_84 : decode cX7_noiseOf 84 = .ok (.istore_n 3, 1) := by decide +kernel
theorem dX7_noiseOf_85 : decode cX7_noiseOf 85 = .ok (.iload 4, 2) := by decide +kernel
theorem dX7_noiseOf_87 : decode cX7_noiseOf 87 = .ok (.aload_n 0, 1) := by decide +kernel
theorem dX7_noiseOf_88 : decode cX7_noiseOf 88 = .ok (.getfield 29, 3) := by decide +kernel
theorem dX7_noiseOf_91 : decode cX7_noiseOf 91 = .ok (.iload 6, 2) := by decide +kernel
theorem dX7_noiseOf_93 : decode cX7_noiseOf 93 = .ok (.iaload, 1) := by decide +kernel
theorem dX7_noiseOf_94 : decode cX7_noiseOf 94 = .ok (.ifCond .eq 7, 3) := by decide +kernel
theorem dX7_noiseOf_97 : decode cX7_noiseOf 97 = .ok (.iconst 1, 1) := by decide +kernel
theorem dX7_noiseOf_98 : decode cX7_noiseOf 98 = .ok (.goto 4, 3) := by decide +kernel
theorem dX7_noiseOf_101 : decode cX7_noiseOf 101 = .ok (.iconst 0, 1) := by decide +kernel
theorem dX7_noiseOf_102 : decode cX7_noiseOf 102 = .ok (.iadd, 1) := by decide +kernel
theorem dX7_noiseOf_103 : decode cX7_noiseOf 103 = .ok (.istore 4, 2) := by decide +kernel
theorem dX7_noiseOf_105 : decode cX7_noiseOf 105 = .ok (.iload 5, 2) := by decide +kernel
theorem dX7_noiseOf_107 : decode cX7_noiseOf 107 = .ok (.aload_n 0, 1) := by decide +kernel
theorem dX7_noiseOf_108 : decode cX7_noiseOf 108 = .ok (.iload_n 1, 1) := by decide +kernel
theorem dX7_noiseOf_109 : decode cX7_noiseOf 109 = .ok (.iload 6, 2) := by decide +kernel
theorem dX7_noiseOf_111 : decode cX7_noiseOf 111 = .ok (.invokevirtual 62, 3) := by decide +kernel
theorem dX7_noiseOf_114 : decode cX7_noiseOf 114 = .ok (.aload_n 0, 1) := by decide +kernel
theorem dX7_noiseOf_115 : decode cX7_noiseOf 115 = .ok (.iload_n 1, 1) := by decide +kernel
theorem dX7_noiseOf_116 : decode cX7_noiseOf 116 = .ok (.iconst 2, 1) := by decide +kernel
theorem dX7_noiseOf_117 : decode cX7_noiseOf 117 = .ok (.invokevirtual 58, 3) := by decide +kernel
theorem dX7_noiseOf_120 : decode cX7_noiseOf 120 = .ok (.if_icmp .ge 7, 3) := by decide +kernel
theorem dX7_noiseOf_123 : decode cX7_noiseOf 123 = .ok (.iconst 1, 1) := by decide +kernel
theorem dX7_noiseOf_124 : decode cX7_noiseOf 124 = .ok (.goto 4, 3) := by decide +kernel
theorem dX7_noiseOf_127 : decode cX7_noiseOf 127 = .ok (.iconst 0, 1) := by decide +kernel
theorem dX7_noiseOf_128 : decode cX7_noiseOf 128 = .ok (.iadd, 1) := by decide +kernel
theorem dX7_noiseOf_129 : decode cX7_noiseOf 129 = .ok (.istore 5, 2) := by decide +kernel
theorem dX7_noiseOf_131 : decode cX7_noiseOf 131 = .ok (.iinc 6 1, 3) := by decide +kernel
theorem dX7_noiseOf_134 : decode cX7_noiseOf 134 = .ok (.goto (-77), 3) := by decide +kernel
theorem dX7_noiseOf_137 : decode cX7_noiseOf 137 = .ok (.iload_n 2, 1) := by decide +kernel
theorem dX7_noiseOf_138 : decode cX7_noiseOf 138 = .ok (.iconst 4, 1) := by decide +kernel
theorem dX7_noiseOf_139 : decode cX7_noiseOf 139 = .ok (.if_icmp .ge 12, 3) := by decide +kernel
theorem dX7_noiseOf_142 : decode cX7_noiseOf 142 = .ok (.aload_n 0, 1) := by decide +kernel
theorem dX7_noiseOf_143 : decode cX7_noiseOf 143 = .ok (.iload_n 1, 1) := by decide +kernel
theorem dX7_noiseOf_144 : decode cX7_noiseOf 144 = .ok (.iload_n 2, 1) := by decide +kernel
theorem dX7_noiseOf_145 : decode cX7_noiseOf 145 = .ok (.invokevirtual 58, 3) := by decide +kernel
theorem dX7_noiseOf_148 : decode cX7_noiseOf 148 = .ok (.goto 24, 3) := by decide +kernel
theorem dX7_noiseOf_151 : decode cX7_noiseOf 151 = .ok (.iload_n 2, 1) := by decide +kernel
theorem dX7_noiseOf_152 : decode cX7_noiseOf 152 = .ok (.iconst 4, 1) := by decide +kernel
theorem dX7_noiseOf_153 : decode cX7_noiseOf 153 = .ok (.if_icmp .ne 7, 3) := by decide +kernel
theorem dX7_noiseOf_156 : decode cX7_noiseOf 156 = .ok (.iload_n 3, 1) := by decide +kernel
theorem dX7_noiseOf_157 : decode cX7_noiseOf 157 = .ok (.goto 15, 3) := by decide +kernel
theorem dX7_noiseOf_160 : decode cX7_noiseOf 160 = .ok (.iload_n 2, 1) := by decide +kernel
theorem dX7_noiseOf_161 : decode cX7_noiseOf 161 = .ok (.iconst 5, 1) := by decide +kernel
theorem dX7_noiseOf_162 : decode cX7_noiseOf 162 = .ok (.if_icmp .ne 8, 3) := by decide +kernel
theorem dX7_noiseOf_165 : decode cX7_noiseOf 165 = .ok (.iload 4, 2) := by decide +kernel
theorem dX7_noiseOf_167 : decode cX7_noiseOf 167 = .ok (.goto 5, 3) := by decide +kernel
theorem dX7_noiseOf_170 : decode cX7_noiseOf 170 = .ok (.iload 5, 2) := by decide +kernel
theorem dX7_noiseOf_172 : decode cX7_noiseOf 172 = .ok (.ireturn, 1) := by decide +kernel
set_option maxRecDepth 20000 in
theorem ggX7_second_X7_in : GoodIn wsX7_second wsX7_in := goodIn_r _ [6] (by decide +kernel) (by decide +kernel)
set_option maxRecDepth 20000 in
theorem gX7_second_X7_in : GoodIn wsX7_second (va_wsS RX7 39 yX7_in wsX7_in) := goodIn_app (goodIn_of _ (by decide +kernel)) ggX7_second_X7_in
set_option maxRecDepth 20000 in
theorem ggX7_second_X7_holds : GoodIn wsX7_second wsX7_holds := goodIn_r _ [10, 11, 59, 60, 61, 62, 63, 64, 65, 66, 67, 68, 69, 70, 71, 72] (by decide +kernel) (by decide +kernel)
