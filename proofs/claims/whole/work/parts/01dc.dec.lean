theorem dX11_init_0 : decode cX11_init 0 = .ok (.aload_n 0, 1) := by decide +kernel
theorem dX11_init_1 : decode cX11_init 1 = .ok (.invokespecial 1, 3) := by decide +kernel
theorem dX11_init_4 : decode cX11_init 4 = .ok (.aload_n 0, 1) := by decide +kernel
theorem dX11_init_5 : decode cX11_init 5 = .ok (.sipush 900, 3) := by decide +kernel
theorem dX11_init_8 : decode cX11_init 8 = .ok (.newarray .byte, 2) := by decide +kernel
theorem dX11_init_10 : decode cX11_init 10 = .ok (.putfield 9, 3) := by decide +kernel
theorem dX11_init_13 : decode cX11_init 13 = .ok (.aload_n 0, 1) := by decide +kernel
theorem dX11_init_14 : decode cX11_init 14 = .ok (.iconst 0, 1) := by decide +kernel
theorem dX11_init_15 : decode cX11_init 15 = .ok (.putfield 13, 3) := by decide +kernel
theorem dX11_init_18 : decode cX11_init 18 = .ok (.aload_n 0, 1) := by decide +kernel
theorem dX11_init_19 : decode cX11_init 19 = .ok (.new 17, 3) := by decide +kernel
theorem dX11_init_22 : decode cX11_init 22 = .ok (.dup, 1) := by decide +kernel
theorem dX11_init_23 : decode cX11_init 23 = .ok (.invokespecial 19, 3) := by decide +kernel
theorem dX11_init_26 : decode cX11_init 26 = .ok (.putfield 20, 3) := by decide +kernel
theorem dX11_init_29 : decode cX11_init 29 = .ok (.aload_n 0, 1) := by decide +kernel
theorem dX11_init_30 : decode cX11_init 30 = .ok (.new 24, 3) := by decide +kernel
theorem dX11_init_33 : decode cX11_init 33 = .ok (.dup, 1) := by decide +kernel
theorem dX11_init_34 : decode cX11_init 34 = .ok (.invokespecial 26, 3) := by decide +kernel
theorem dX11_init_37 : decode cX11_init 37 = .ok (.putfield 27, 3) := by decide +kernel
theorem dX11_init_40 : decode cX11_init 40 = .ok (.aload_n 0, 1) := by decide +kernel
theorem dX11_init_41 : decode cX11_init 41 = .ok (.new 24, 3) := by decide +kernel
theorem dX11_init_44 : decode cX11_init 44 = .ok (.dup, 1) := by decide +kernel
theorem dX11_init_45 : decode cX11_init 45 = .ok (.invokespecial 26, 3) := by decide +kernel
theorem dX11_init_48 : decode cX11_init 48 = .ok (.putfield 31, 3) := by decide +kernel
theorem dX11_init_51 : decode cX11_init 51 = .ok (.aload_n 0, 1) := by decide +kernel
theorem dX11_init_52 : decode cX11_init 52 = .ok (.new 24, 3) := by decide +kernel
theorem dX11_init_55 : decode cX11_init 55 = .ok (.dup, 1) := by decide +kernel
theorem dX11_init_56 : decode cX11_init 56 = .ok (.invokespecial 26, 3) := by decide +kernel
theorem dX11_init_59 : decode cX11_init 59 = .ok (.putfield 34, 3) := by decide +kernel
theorem dX11_init_62 : decode cX11_init 62 = .ok (.aload_n 0, 1) := by decide +kernel
theorem dX11_init_63 : decode cX11_init 63 = .ok (.bipush 10, 2) := by decide +kernel
theorem dX11_init_65 : decode cX11_init 65 = .ok (.anewarray 24, 3) := by decide +kernel
theorem dX11_init_68 : decode cX11_init 68 = .ok (.putfield 37, 3) := by decide +kernel
theorem dX11_init_71 : decode cX11_init 71 = .ok (.aload_n 0, 1) := by decide +kernel
theorem dX11_init_72 : decode cX11_init 72 = .ok (.iconst 0, 1) := by decide +kernel
theorem dX11_init_73 : decode cX11_init 73 = .ok (.putfield 41, 3) := by decide +kernel
theorem dX11_init_76 : decode cX11_init 76 = .ok (.aload_n 0, 1) := by decide +kernel
theorem dX11_init_77 : decode cX11_init 77 = .ok (.iconst 0, 1) := by decide +kernel
theorem dX11_init_78 : decode cX11_init 78 = .ok (.putfield 44, 3) := by decide +kernel
theorem dX11_init_81 : decode cX11_init 81 = .ok (.aload_n 0, 1) := by decide +kernel
theorem dX11_init_82 : decode cX11_init 82 = .ok (.iconst 4, 1) := by decide +kernel
theorem dX11_init_83 : decode cX11_init 83 = .ok (.anewarray 47, 3) := by decide +kernel
theorem dX11_init_86 : decode cX11_init 86 = .ok (.putfield 49, 3) := by decide +kernel
theorem dX11_init_89 : decode cX11_init 89 = .ok (.aload_n 0, 1) := by decide +kernel
theorem dX11_init_90 : decode cX11_init 90 = .ok (.iconst 2, 1) := by decide +kernel
theorem dX11_init_91 : decode cX11_init 91 = .ok (.anewarray 53, 3) := by decide +kernel
theorem dX11_init_94 : decode cX11_init 94 = .ok (.putfield 55, 3) := by decide +kernel
theorem dX11_init_97 : decode cX11_init 97 = .ok (.aload_n 0, 1) := by decide +kernel
theorem dX11_init_98 : decode cX11_init 98 = .ok (.new 59, 3) := by decide +kernel
theorem dX11_init_101 : decode cX11_init 101 = .ok (.dup, 1) := by decide +kernel
theorem dX11_init_102 : decode cX11_init 102 = .ok (.invokespecial 61, 3) := by decide +kernel
theorem dX11_init_105 : decode cX11_init 105 = .ok (.putfield 62, 3) := by decide +kernel
theorem dX11_init_108 : decode cX11_init 108 = .ok (.aload_n 0, 1) := by decide +kernel
theorem dX11_init_109 : decode cX11_init 109 = .ok (.new 66, 3) := by decide +kernel
theorem dX11_init_112 : decode cX11_init 112 = .ok (.dup, 1) := by decide +kernel
theorem dX11_init_113 : decode cX11_init 113 = .ok (.aload_n 0, 1) := by decide +kernel
theorem dX11_init_114 : decode cX11_init 114 = .ok (.getfield 62, 3) := by decide +kernel
theorem dX11_init_117 : decode cX11_init 117 = .ok (.invokespecial 68, 3) := by decide +kernel
theorem dX11_init_120 : decode cX11_init 120 = .ok (.putfield 71, 3) := by decide +kernel
theorem dX11_init_123 : decode cX11_init 123 = .ok (.aload_n 0, 1) := by decide +kernel
theorem dX11_init_124 : decode cX11_init 124 = .ok (.new 75, 3) := by decide +kernel
theorem dX11_init_127 : decode cX11_init 127 = .ok (.dup, 1) := by decide +kernel
theorem dX11_init_128 : decode cX11_init 128 = .ok (.aload_n 0, 1) := by decide +kernel
theorem dX11_init_129 : decode cX11_init 129 = .ok (.getfield 62, 3) := by decide +kernel
theorem dX11_init_132 : decode cX11_init 132 = .ok (.aload_n 0, 1) := by decide +kernel
theorem dX11_init_133 : decode cX11_init 133 = .ok (.getfield 71, 3) := by decide +kernel
theorem dX11_init_136 : decode cX11_init 136 = .ok (.invokespecial 77, 3) := by decide +kernel
theorem dX11_init_139 : decode cX11_init 139 = .ok (.putfield 80, 3) := by decide +kernel
theorem dX11_init_142 : decode cX11_init 142 = .ok (.aload_n 0, 1) := by decide +kernel
theorem dX11_init_143 : decode cX11_init 143 = .ok (.new 84, 3) := by decide +kernel
theorem dX11_init_146 : decode cX11_init 146 = .ok (.dup, 1) := by decide +kernel
theorem dX11_init_147 : decode cX11_init 147 = .ok (.aload_n 0, 1) := by decide +kernel
theorem dX11_init_148 : decode cX11_init 148 = .ok (.getfield 62, 3) := by decide +kernel
theorem dX11_init_151 : decode cX11_init 151 = .ok (.invokespecial 86, 3) := by decide +kernel
theorem dX11_init_154 : decode cX11_init 154 = .ok (.putfield 87, 3) := by decide +kernel
theorem dX11_init_157 : decode cX11_init 157 = .ok (.aload_n 0, 1) := by decide +kernel
theorem dX11_init_158 : decode cX11_init 158 = .ok (.bipush 36, 2) := by decide +kernel
theorem dX11_init_160 : decode cX11_init 160 = .ok (.newarray .int, 2) := by decide +kernel
theorem dX11_init_162 : decode cX11_init 162 = .ok (.putfield 91, 3) := by decide +kernel
theorem dX11_init_165 : decode cX11_init 165 = .ok (.aload_n 0, 1) := by decide +kernel
theorem dX11_init_166 : decode cX11_init 166 = .ok (.bipush 21, 2) := by decide +kernel
theorem dX11_init_168 : decode cX11_init 168 = .ok (.newarray .long, 2) := by decide +kernel
theorem dX11_init_170 : decode cX11_init 170 = .ok (.putfield 95, 3) := by decide +kernel
theorem dX11_init_173 : decode cX11_init 173 = .ok (.iconst 0, 1) := by decide +kernel
theorem dX11_init_174 : decode cX11_init 174 = .ok (.istore_n 1, 1) := by decide +kernel
theorem dX11_init_175 : decode cX11_init 175 = .ok (.iload_n 1, 1) := by decide +kernel
theorem dX11_init_176 : decode cX11_init 176 = .ok (.aload_n 0, 1) := by decide +kernel
theorem dX11_init_177 : decode cX11_init 177 = .ok (.getfield 37, 3) := by decide +kernel
theorem dX11_init_180 : decode cX11_init 180 = .ok (.arraylength, 1) := by decide +kernel
theorem dX11_init_181 : decode cX11_init 181 = .ok (.if_icmp .ge 22, 3) := by decide +kernel
theorem dX11_init_184 : decode cX11_init 184 = .ok (.aload_n 0, 1) := by decide +kernel
theorem dX11_init_185 : decode cX11_init 185 = .ok (.getfield 37, 3) := by decide +kernel
theorem dX11_init_188 : decode cX11_init 188 = .ok (.iload_n 1, 1) := by decide +kernel
theorem dX11_init_189 : decode cX11_init 189 = .ok (.new 24, 3) := by decide +kernel
theorem dX11_init_192 : decode cX11_init 192 = .ok (.dup, 1) := by decide +kernel
theorem dX11_init_193 : decode cX11_init 193 = .ok (.invokespecial 26, 3) := by decide +kernel
theorem dX11_init_196 : decode cX11_init 196 = .ok (.aastore, 1) := by decide +kernel
theorem dX11_init_197 : decode cX11_init 197 = .ok (.iinc 1 1, 3) := by decide +kernel
theorem dX11_init_200 : decode cX11_init 200 = .ok (.goto (-25), 3) := by decide +kernel
theorem dX11_init_203 : decode cX11_init 203 = .ok (.iconst 0, 1) := by decide +kernel
theorem dX11_init_204 : decode cX11_init 204 = .ok (.istore_n 1, 1) := by decide +kernel
theorem dX11_init_205 : decode cX11_init 205 = .ok (.iload_n 1, 1) := by decide +kernel
theorem dX11_init_206 : decode cX11_init 206 = .ok (.aload_n 0, 1) := by decide +kernel
theorem dX11_init_207 : decode cX11_init 207 = .ok (.getfield 49, 3) := by decide +kernel
theorem dX11_init_210 : decode cX11_init 210 = .ok (.arraylength, 1) := by decide +kernel
theorem dX11_init_211 : decode cX11_init 211 = .ok (.if_icmp .ge 22, 3) := by decide +kernel
theorem dX11_init_214 : decode cX11_init 214 = .ok (.aload_n 0, 1) := by decide +kernel
theorem dX11_init_215 : decode cX11_init 215 = .ok (.getfield 49, 3) := by decide +kernel
theorem dX11_init_218 : decode cX11_init 218 = .ok (.iload_n 1, 1) := by decide +kernel
theorem dX11_init_219 : decode cX11_init 219 = .ok (.new 47, 3) := by decide +kernel
theorem dX11_init_222 : decode cX11_init 222 = .ok (.dup, 1) := by decide +kernel
theorem dX11_init_223 : decode cX11_init 223 = .ok (.invokespecial 99, 3) := by decide +kernel
theorem dX11_init_226 : decode cX11_init 226 = .ok (.aastore, 1) := by decide +kernel
theorem dX11_init_227 : decode cX11_init 227 = .ok (.iinc 1 1, 3) := by decide +kernel
theorem dX11_init_230 : decode cX11_init 230 = .ok (.goto (-25), 3) := by decide +kernel
theorem dX11_init_233 : decode cX11_init 233 = .ok (.iconst 0, 1) := by decide +kernel
theorem dX11_init_234 : decode cX11_init 234 = .ok (.istore_n 1, 1) := by decide +kernel
theorem dX11_init_235 : decode cX11_init 235 = .ok (.iload_n 1, 1) := by decide +kernel
theorem dX11_init_236 : decode cX11_init 236 = .ok (.aload_n 0, 1) := by decide +kernel
theorem dX11_init_237 : decode cX11_init 237 = .ok (.getfield 55, 3) := by decide +kernel
theorem dX11_init_240 : decode cX11_init 240 = .ok (.arraylength, 1) := by decide +kernel
theorem dX11_init_241 : decode cX11_init 241 = .ok (.if_icmp .ge 22, 3) := by decide +kernel
theorem dX11_init_244 : decode cX11_init 244 = .ok (.aload_n 0, 1) := by decide +kernel
theorem dX11_init_245 : decode cX11_init 245 = .ok (.getfield 55, 3) := by decide +kernel
theorem dX11_init_248 : decode cX11_init 248 = .ok (.iload_n 1, 1) := by decide +kernel
theorem dX11_init_249 : decode cX11_init 249 = .ok (.new 53, 3) := by decide +kernel
theorem dX11_init_252 : decode cX11_init 252 = .ok (.dup, 1) := by decide +kernel
theorem dX11_init_253 : decode cX11_init 253 = .ok (.invokespecial 100, 3) := by decide +kernel
theorem dX11_init_256 : decode cX11_init 256 = .ok (.aastore, 1) := by decide +kernel
theorem dX11_init_257 : decode cX11_init 257 = .ok (.iinc 1 1, 3) := by decide +kernel
theorem dX11_init_260 : decode cX11_init 260 = .ok (.goto (-25), 3) := by decide +kernel
theorem dX11_init_263 : decode cX11_init 263 = .ok (.aload_n 0, 1) := by decide +kernel
theorem dX11_init_264 : decode cX11_init 264 = .ok (.new 101, 3) := by decide +kernel
theorem dX11_init_267 : decode cX11_init 267 = .ok (.dup, 1) := by decide +kernel
theorem dX11_init_268 : decode cX11_init 268 = .ok (.aload_n 0, 1) := by decide +kernel
theorem dX11_init_269 : decode cX11_init 269 = .ok (.getfield 20, 3) := by decide +kernel
theorem dX11_init_272 : decode cX11_init 272 = .ok (.invokespecial 103, 3) := by decide +kernel
theorem dX11_init_275 : decode cX11_init 275 = .ok (.putfield 106, 3) := by decide +kernel
theorem dX11_init_278 : decode cX11_init 278 = .ok (.aload_n 0, 1) := by decide +kernel
theorem dX11_init_279 : decode cX11_init 279 = .ok (.aload_n 0, 1) := by decide +kernel
theorem dX11_init_280 : decode cX11_init 280 = .ok (.getfield 106, 3) := by decide +kernel
theorem dX11_init_283 : decode cX11_init 283 = .ok (.invokevirtual 110, 3) := by decide +kernel
theorem dX11_init_286 : decode cX11_init 286 = .ok (.return_, 1) := by decide +kernel
theorem dX11_feed_0 : decode cX11_feed 0 = .ok (.aload_n 0, 1) := by decide +kernel
theorem dX11_feed_1 : decode cX11_feed 1 = .ok (.getfield 13, 3) := by decide +kernel
theorem dX11_feed_4 : decode cX11_feed 4 = .ok (.bipush 20, 2) := by decide +kernel
theorem dX11_feed_6 : decode cX11_feed 6 = .ok (.iadd, 1) := by decide +kernel
theorem dX11_feed_7 : decode cX11_feed 7 = .ok (.sipush 900, 3) := by decide +kernel
theorem dX11_feed_10 : decode cX11_feed 10 = .ok (.if_icmp .le 6, 3) := by decide +kernel
theorem dX11_feed_13 : decode cX11_feed 13 = .ok (.bipush (-5), 2) := by decide +kernel
theorem dX11_feed_15 : decode cX11_feed 15 = .ok (.ireturn, 1) := by decide +kernel
theorem dX11_feed_16 : decode cX11_feed 16 = .ok (.aload_n 0, 1) := by decide +kernel
theorem dX11_feed_17 : decode cX11_feed 17 = .ok (.iload_n 1, 1) := by decide +kernel
theorem dX11_feed_18 : decode cX11_feed 18 = .ok (.invokevirtual 114, 3) := by decide +kernel
theorem dX11_feed_21 : decode cX11_feed 21 = .ok (.aload_n 0, 1) := by decide +kernel
theorem dX11_feed_22 : decode cX11_feed 22 = .ok (.iload_n 2, 1) := by decide +kernel
theorem dX11_feed_23 : decode cX11_feed 23 = .ok (.invokevirtual 114, 3) := by decide +kernel
theorem dX11_feed_26 : decode cX11_feed 26 = .ok (.aload_n 0, 1) := by decide +kernel
theorem dX11_feed_27 : decode cX11_feed 27 = .ok (.iload_n 3, 1) := by decide +kernel
theorem dX11_feed_28 : decode cX11_feed 28 = .ok (.invokevirtual 114, 3) := by decide +kernel
theorem dX11_feed_31 : decode cX11_feed 31 = .ok (.aload_n 0, 1) := by decide +kernel
theorem dX11_feed_32 : decode cX11_feed 32 = .ok (.iload 4, 2) := by decide +kernel
theorem dX11_feed_34 : decode cX11_feed 34 = .ok (.invokevirtual 114, 3) := by decide +kernel
theorem dX11_feed_37 : decode cX11_feed 37 = .ok (.aload_n 0, 1) := by decide +kernel
theorem dX11_feed_38 : decode cX11_feed 38 = .ok (.iload 5, 2) := by decide +kernel
theorem dX11_feed_40 : decode cX11_feed 40 = .ok (.invokevirtual 114, 3) := by decide +kernel
theorem dX11_feed_43 : decode cX11_feed 43 = .ok (.aload_n 0, 1) := by decide +kernel
theorem dX11_feed_44 : decode cX11_feed 44 = .ok (.getfield 13, 3) := by decide +kernel
theorem dX11_feed_47 : decode cX11_feed 47 = .ok (.ireturn, 1) := by decide +kernel
theorem dX11_putOnTape_0 : decode cX11_putOnTape 0 = .ok (.bipush 24, 2) := by decide +kernel
theorem dX11_putOnTape_2 : decode cX11_putOnTape 2 = .ok (.istore_n 2, 1) := by decide +kernel
theorem dX11_putOnTape_3 : decode cX11_putOnTape 3 = .ok (.iload_n 2, 1) := by decide +kernel
theorem dX11_putOnTape_4 : decode cX11_putOnTape 4 = .ok (.ifCond .lt 42, 3) := by decide +kernel
theorem dX11_putOnTape_7 : decode cX11_putOnTape 7 = .ok (.aload_n 0, 1) := by decide +kernel
theorem dX11_putOnTape_8 : decode cX11_putOnTape 8 = .ok (.getfield 13, 3) := by decide +kernel
theorem dX11_putOnTape_11 : decode cX11_putOnTape 11 = .ok (.sipush 900, 3) := by decide +kernel
theorem dX11_putOnTape_14 : decode cX11_putOnTape 14 = .ok (.if_icmp .ge 32, 3) := by decide +kernel
theorem dX11_putOnTape_17 : decode cX11_putOnTape 17 = .ok (.aload_n 0, 1) := by decide +kernel
theorem dX11_putOnTape_18 : decode cX11_putOnTape 18 = .ok (.getfield 9, 3) := by decide +kernel
theorem dX11_putOnTape_21 : decode cX11_putOnTape 21 = .ok (.aload_n 0, 1) := by decide +kernel
theorem dX11_putOnTape_22 : decode cX11_putOnTape 22 = .ok (.getfield 13, 3) := by decide +kernel
theorem dX11_putOnTape_25 : decode cX11_putOnTape 25 = .ok (.iload_n 1, 1) := by decide +kernel
theorem dX11_putOnTape_26 : decode cX11_putOnTape 26 = .ok (.iload_n 2, 1) := by decide +kernel
theorem dX11_putOnTape_27 : decode cX11_putOnTape 27 = .ok (.ishr, 1) := by decide +kernel
theorem dX11_putOnTape_28 : decode cX11_putOnTape 28 = .ok (.i2b, 1) := by decide +kernel
theorem dX11_putOnTape_29 : decode cX11_putOnTape 29 = .ok (.bastore, 1) := by decide +kernel
theorem dX11_putOnTape_30 : decode cX11_putOnTape 30 = .ok (.aload_n 0, 1) := by decide +kernel
theorem dX11_putOnTape_31 : decode cX11_putOnTape 31 = .ok (.dup, 1) := by decide +kernel
theorem dX11_putOnTape_32 : decode cX11_putOnTape 32 = .ok (.getfield 13, 3) := by decide +kernel
theorem dX11_putOnTape_35 : decode cX11_putOnTape 35 = .ok (.iconst 1, 1) := by decide +kernel
theorem dX11_putOnTape_36 : decode cX11_putOnTape 36 = .ok (.iadd, 1) := by decide +kernel
theorem dX11_putOnTape_37 : decode cX11_putOnTape 37 = .ok (.putfield 13, 3) := by decide +kernel
theorem dX11_putOnTape_40 : decode cX11_putOnTape 40 = .ok (.iinc 2 (-8), 3) := by decide +kernel
theorem dX11_putOnTape_43 : decode cX11_putOnTape 43 = .ok (.goto (-40), 3) := by decide +kernel
theorem dX11_putOnTape_46 : decode cX11_putOnTape 46 = .ok (.return_, 1) := by decide +kernel
theorem dX11_desk_0 : decode cX11_desk 0 = .ok (.iload_n 1, 1) := by decide +kernel
theorem dX11_desk_1 : decode cX11_desk 1 = .ok (.ifCond .lt 11, 3) := by decide +kernel
theorem dX11_desk_4 : decode cX11_desk 4 = .ok (.iload_n 1, 1) := by decide +kernel
theorem dX11_desk_5 : decode cX11_desk 5 = .ok (.aload_n 0, 1) := by decide +kernel
theorem dX11_desk_6 : decode cX11_desk 6 = .ok (.getfield 13, 3) := by decide +kernel
theorem dX11_desk_9 : decode cX11_desk 9 = .ok (.if_icmp .le 6, 3) := by decide +kernel
theorem dX11_desk_12 : decode cX11_desk 12 = .ok (.bipush (-3), 2) := by decide +kernel
theorem dX11_desk_14 : decode cX11_desk 14 = .ok (.ireturn, 1) := by decide +kernel
theorem dX11_desk_15 : decode cX11_desk 15 = .ok (.aload_n 0, 1) := by decide +kernel
theorem dX11_desk_16 : decode cX11_desk 16 = .ok (.iconst 0, 1) := by decide +kernel
theorem dX11_desk_17 : decode cX11_desk 17 = .ok (.putfield 13, 3) := by decide +kernel
theorem dX11_desk_20 : decode cX11_desk 20 = .ok (.aload_n 0, 1) := by decide +kernel
theorem dX11_desk_21 : decode cX11_desk 21 = .ok (.getfield 20, 3) := by decide +kernel
theorem dX11_desk_24 : decode cX11_desk 24 = .ok (.aload_n 0, 1) := by decide +kernel
theorem dX11_desk_25 : decode cX11_desk 25 = .ok (.getfield 9, 3) := by decide +kernel
theorem dX11_desk_28 : decode cX11_desk 28 = .ok (.iload_n 1, 1) := by decide +kernel
theorem dX11_desk_29 : decode cX11_desk 29 = .ok (.invokevirtual 118, 3) := by decide +kernel
theorem dX11_desk_32 : decode cX11_desk 32 = .ok (.aload_n 0, 1) := by decide +kernel
theorem dX11_desk_33 : decode cX11_desk 33 = .ok (.getfield 20, 3) := by decide +kernel
theorem dX11_desk_36 : decode cX11_desk 36 = .ok (.getfield 122, 3) := by decide +kernel
theorem dX11_desk_39 : decode cX11_desk 39 = .ok (.ifCond .eq 14, 3) := by decide +kernel
theorem dX11_desk_42 : decode cX11_desk 42 = .ok (.bipush (-30), 2) := by decide +kernel
theorem dX11_desk_44 : decode cX11_desk 44 = .ok (.aload_n 0, 1) := by decide +kernel
theorem dX11_desk_45 : decode cX11_desk 45 = .ok (.getfield 20, 3) := by decide +kernel
theorem dX11_desk_48 : decode cX11_desk 48 = .ok (.getfield 122, 3) := by decide +kernel
theorem dX11_desk_51 : decode cX11_desk 51 = .ok (.isub, 1) := by decide +kernel
theorem dX11_desk_52 : decode cX11_desk 52 = .ok (.ireturn, 1) := by decide +kernel
theorem dX11_desk_53 : decode cX11_desk 53 = .ok (.new 101, 3) := by decide +kernel
theorem dX11_desk_56 : decode cX11_desk 56 = .ok (.dup, 1) := by decide +kernel
theorem dX11_desk_57 : decode cX11_desk 57 = .ok (.aload_n 0, 1) := by decide +kernel
theorem dX11_desk_58 : decode cX11_desk 58 = .ok (.getfield 20, 3) := by decide +kernel
theorem dX11_desk_61 : decode cX11_desk 61 = .ok (.invokespecial 103, 3) := by decide +kernel
theorem dX11_desk_64 : decode cX11_desk 64 = .ok (.astore_n 2, 1) := by decide +kernel
theorem dX11_desk_65 : decode cX11_desk 65 = .ok (.aload_n 0, 1) := by decide +kernel
theorem dX11_desk_66 : decode cX11_desk 66 = .ok (.aload_n 2, 1) := by decide +kernel
theorem dX11_desk_67 : decode cX11_desk 67 = .ok (.invokevirtual 110, 3) := by decide +kernel
theorem dX11_desk_70 : decode cX11_desk 70 = .ok (.aload_n 0, 1) := by decide +kernel
theorem dX11_desk_71 : decode cX11_desk 71 = .ok (.getfield 27, 3) := by decide +kernel
theorem dX11_desk_74 : decode cX11_desk 74 = .ok (.aload_n 2, 1) := by decide +kernel
theorem dX11_desk_75 : decode cX11_desk 75 = .ok (.getfield 125, 3) := by decide +kernel
theorem dX11_desk_78 : decode cX11_desk 78 = .ok (.putfield 128, 3) := by decide +kernel
theorem dX11_desk_81 : decode cX11_desk 81 = .ok (.aload_n 0, 1) := by decide +kernel
theorem dX11_desk_82 : decode cX11_desk 82 = .ok (.getfield 27, 3) := by decide +kernel
theorem dX11_desk_85 : decode cX11_desk 85 = .ok (.aload_n 2, 1) := by decide +kernel
theorem dX11_desk_86 : decode cX11_desk 86 = .ok (.getfield 131, 3) := by decide +kernel
theorem dX11_desk_89 : decode cX11_desk 89 = .ok (.putfield 134, 3) := by decide +kernel
theorem dX11_desk_92 : decode cX11_desk 92 = .ok (.aload_n 0, 1) := by decide +kernel
theorem dX11_desk_93 : decode cX11_desk 93 = .ok (.getfield 27, 3) := by decide +kernel
theorem dX11_desk_96 : decode cX11_desk 96 = .ok (.iconst 0, 1) := by decide +kernel
theorem dX11_desk_97 : decode cX11_desk 97 = .ok (.putfield 137, 3) := by decide +kernel
theorem dX11_desk_100 : decode cX11_desk 100 = .ok (.aload_n 0, 1) := by decide +kernel
theorem dX11_desk_101 : decode cX11_desk 101 = .ok (.iconst 0, 1) := by decide +kernel
theorem dX11_desk_102 : decode cX11_desk 102 = .ok (.putfield 41, 3) := by decide +kernel
theorem dX11_desk_105 : decode cX11_desk 105 = .ok (.aload_n 2, 1) := by decide +kernel
theorem dX11_desk_106 : decode cX11_desk 106 = .ok (.getfield 140, 3) := by decide +kernel
theorem dX11_desk_109 : decode cX11_desk 109 = .ok (.ireturn, 1) := by decide +kernel
theorem dX11_sitAt_0 : decode cX11_sitAt 0 = .ok (.aload_n 0, 1) := by decide +kernel
theorem dX11_sitAt_1 : decode cX11_sitAt 1 = .ok (.aload_n 1, 1) := by decide +kernel
theorem dX11_sitAt_2 : decode cX11_sitAt 2 = .ok (.putfield 106, 3) := by decide +kernel
theorem dX11_sitAt_5 : decode cX11_sitAt 5 = .ok (.aload_n 0, 1) := by decide +kernel
theorem dX11_sitAt_6 : decode cX11_sitAt 6 = .ok (.getfield 62, 3) := by decide +kernel
theorem dX11_sitAt_9 : decode cX11_sitAt 9 = .ok (.aload_n 1, 1) := by decide +kernel
theorem dX11_sitAt_10 : decode cX11_sitAt 10 = .ok (.getfield 143, 3) := by decide +kernel
theorem dX11_sitAt_13 : decode cX11_sitAt 13 = .ok (.invokevirtual 146, 3) := by decide +kernel
theorem dX11_sitAt_16 : decode cX11_sitAt 16 = .ok (.aload_n 0, 1) := by decide +kernel
theorem dX11_sitAt_17 : decode cX11_sitAt 17 = .ok (.getfield 71, 3) := by decide +kernel
theorem dX11_sitAt_20 : decode cX11_sitAt 20 = .ok (.aload_n 1, 1) := by decide +kernel
theorem dX11_sitAt_21 : decode cX11_sitAt 21 = .ok (.invokevirtual 149, 3) := by decide +kernel
theorem dX11_sitAt_24 : decode cX11_sitAt 24 = .ok (.return_, 1) := by decide +kernel
theorem dX11_fault_0 : decode cX11_fault 0 = .ok (.iload_n 1, 1) := by decide +kernel
theorem dX11_fault_1 : decode cX11_fault 1 = .ok (.ifCond .ne 11, 3) := by decide +kernel
theorem dX11_fault_4 : decode cX11_fault 4 = .ok (.aload_n 0, 1) := by decide +kernel
theorem dX11_fault_5 : decode cX11_fault 5 = .ok (.getfield 20, 3) := by decide +kernel
theorem dX11_fault_8 : decode cX11_fault 8 = .ok (.getfield 122, 3) := by decide +kernel
theorem dX11_fault_11 : decode cX11_fault 11 = .ok (.ireturn, 1) := by decide +kernel
theorem dX11_fault_12 : decode cX11_fault 12 = .ok (.iload_n 1, 1) := by decide +kernel
theorem dX11_fault_13 : decode cX11_fault 13 = .ok (.iconst 1, 1) := by decide +kernel
theorem dX11_fault_14 : decode cX11_fault 14 = .ok (.if_icmp .ne 21, 3) := by decide +kernel
theorem dX11_fault_17 : decode cX11_fault 17 = .ok (.aload_n 0, 1) := by decide +kernel
theorem dX11_fault_18 : decode cX11_fault 18 = .ok (.getfield 20, 3) := by decide +kernel
theorem dX11_fault_21 : decode cX11_fault 21 = .ok (.getfield 122, 3) := by decide +kernel
theorem dX11_fault_24 : decode cX11_fault 24 = .ok (.ifCond .eq 11, 3) := by decide +kernel
theorem dX11_fault_27 : decode cX11_fault 27 = .ok (.aload_n 0, 1) := by decide +kernel
theorem dX11_fault_28 : decode cX11_fault 28 = .ok (.getfield 20, 3) := by decide +kernel
theorem dX11_fault_31 : decode cX11_fault 31 = .ok (.getfield 150, 3) := by decide +kernel
theorem dX11_fault_34 : decode cX11_fault 34 = .ok (.ireturn, 1) := by decide +kernel
theorem dX11_fault_35 : decode cX11_fault 35 = .ok (.iconst (-1), 1) := by decide +kernel
theorem dX11_fault_36 : decode cX11_fault 36 = .ok (.ireturn, 1) := by decide +kernel
theorem dX11_drawer_0 : decode cX11_drawer 0 = .ok (.aload_n 0, 1) := by decide +kernel
theorem dX11_drawer_1 : decode cX11_drawer 1 = .ok (.iload_n 1, 1) := by decide +kernel
theorem dX11_drawer_2 : decode cX11_drawer 2 = .ok (.invokevirtual 153, 3) := by decide +kernel
theorem dX11_drawer_5 : decode cX11_drawer 5 = .ok (.ifCond .eq 11, 3) := by decide +kernel
theorem dX11_drawer_8 : decode cX11_drawer 8 = .ok (.iload_n 2, 1) := by decide +kernel
theorem dX11_drawer_9 : decode cX11_drawer 9 = .ok (.iconst 2, 1) := by decide +kernel
theorem dX11_drawer_10 : decode cX11_drawer 10 = .ok (.invokestatic 157, 3) := by decide +kernel
theorem dX11_drawer_13 : decode cX11_drawer 13 = .ok (.ifCond .ne 6, 3) := by decide +kernel
theorem dX11_drawer_16 : decode cX11_drawer 16 = .ok (.bipush (-2), 2) := by decide +kernel
theorem dX11_drawer_18 : decode cX11_drawer 18 = .ok (.ireturn, 1) := by decide +kernel
theorem dX11_drawer_19 : decode cX11_drawer 19 = .ok (.aload_n 0, 1) := by decide +kernel
theorem dX11_drawer_20 : decode cX11_drawer 20 = .ok (.getfield 62, 3) := by decide +kernel
theorem dX11_drawer_23 : decode cX11_drawer 23 = .ok (.iload_n 2, 1) := by decide +kernel
theorem dX11_drawer_24 : decode cX11_drawer 24 = .ok (.ifCond .ne 13, 3) := by decide +kernel
theorem dX11_drawer_27 : decode cX11_drawer 27 = .ok (.aload_n 0, 1) := by decide +kernel
theorem dX11_drawer_28 : decode cX11_drawer 28 = .ok (.getfield 27, 3) := by decide +kernel
theorem dX11_drawer_31 : decode cX11_drawer 31 = .ok (.getfield 128, 3) := by decide +kernel
theorem dX11_drawer_34 : decode cX11_drawer 34 = .ok (.goto 10, 3) := by decide +kernel
theorem dX11_drawer_37 : decode cX11_drawer 37 = .ok (.aload_n 0, 1) := by decide +kernel
theorem dX11_drawer_38 : decode cX11_drawer 38 = .ok (.getfield 106, 3) := by decide +kernel
theorem dX11_drawer_41 : decode cX11_drawer 41 = .ok (.getfield 161, 3) := by decide +kernel
theorem dX11_drawer_44 : decode cX11_drawer 44 = .ok (.iload_n 1, 1) := by decide +kernel
theorem dX11_drawer_45 : decode cX11_drawer 45 = .ok (.invokevirtual 164, 3) := by decide +kernel
theorem dX11_drawer_48 : decode cX11_drawer 48 = .ok (.ireturn, 1) := by decide +kernel
theorem dX11_isDrawer_0 : decode cX11_isDrawer 0 = .ok (.iload_n 1, 1) := by decide +kernel
theorem dX11_isDrawer_1 : decode cX11_isDrawer 1 = .ok (.aload_n 0, 1) := by decide +kernel
theorem dX11_isDrawer_2 : decode cX11_isDrawer 2 = .ok (.getfield 106, 3) := by decide +kernel
theorem dX11_isDrawer_5 : decode cX11_isDrawer 5 = .ok (.getfield 143, 3) := by decide +kernel
theorem dX11_isDrawer_8 : decode cX11_isDrawer 8 = .ok (.invokestatic 157, 3) := by decide +kernel
theorem dX11_isDrawer_11 : decode cX11_isDrawer 11 = .ok (.ireturn, 1) := by decide +kernel
theorem dX11_isOneOf_0 : decode cX11_isOneOf 0 = .ok (.iload_n 0, 1) := by decide +kernel
theorem dX11_isOneOf_1 : decode cX11_isOneOf 1 = .ok (.ifCond .lt 12, 3) := by decide +kernel
theorem dX11_isOneOf_4 : decode cX11_isOneOf 4 = .ok (.iload_n 0, 1) := by decide +kernel
theorem dX11_isOneOf_5 : decode cX11_isOneOf 5 = .ok (.iload_n 1, 1) := by decide +kernel
theorem dX11_isOneOf_6 : decode cX11_isOneOf 6 = .ok (.if_icmp .ge 7, 3) := by decide +kernel
theorem dX11_isOneOf_9 : decode cX11_isOneOf 9 = .ok (.iconst 1, 1) := by decide +kernel
theorem dX11_isOneOf_10 : decode cX11_isOneOf 10 = .ok (.goto 4, 3) := by decide +kernel
theorem dX11_isOneOf_13 : decode cX11_isOneOf 13 = .ok (.iconst 0, 1) := by decide +kernel
theorem dX11_isOneOf_14 : decode cX11_isOneOf 14 = .ok (.ireturn, 1) := by decide +kernel
theorem dX11_visit_0 : decode cX11_visit 0 = .ok (.aload_n 0, 1) := by decide +kernel
theorem dX11_visit_1 : decode cX11_visit 1 = .ok (.iload_n 1, 1) := by decide +kernel
theorem dX11_visit_2 : decode cX11_visit 2 = .ok (.invokevirtual 153, 3) := by decide +kernel
theorem dX11_visit_5 : decode cX11_visit 5 = .ok (.ifCond .eq 11, 3) := by decide +kernel
theorem dX11_visit_8 : decode cX11_visit 8 = .ok (.iload_n 2, 1) := by decide +kernel
theorem dX11_visit_9 : decode cX11_visit 9 = .ok (.iconst 2, 1) := by decide +kernel
theorem dX11_visit_10 : decode cX11_visit 10 = .ok (.invokestatic 157, 3) := by decide +kernel
theorem dX11_visit_13 : decode cX11_visit 13 = .ok (.ifCond .ne 6, 3) := by decide +kernel
theorem dX11_visit_16 : decode cX11_visit 16 = .ok (.bipush (-2), 2) := by decide +kernel
theorem dX11_visit_18 : decode cX11_visit 18 = .ok (.ireturn, 1) := by decide +kernel
theorem dX11_visit_19 : decode cX11_visit 19 = .ok (.aload_n 0, 1) := by decide +kernel
theorem dX11_visit_20 : decode cX11_visit 20 = .ok (.getfield 71, 3) := by decide +kernel
theorem dX11_visit_23 : decode cX11_visit 23 = .ok (.iload_n 1, 1) := by decide +kernel
theorem dX11_visit_24 : decode cX11_visit 24 = .ok (.aload_n 0, 1) := by decide +kernel
theorem dX11_visit_25 : decode cX11_visit 25 = .ok (.getfield 27, 3) := by decide +kernel
theorem dX11_visit_28 : decode cX11_visit 28 = .ok (.getfield 128, 3) := by decide +kernel
theorem dX11_visit_31 : decode cX11_visit 31 = .ok (.aload_n 0, 1) := by decide +kernel
theorem dX11_visit_32 : decode cX11_visit 32 = .ok (.getfield 27, 3) := by decide +kernel
theorem dX11_visit_35 : decode cX11_visit 35 = .ok (.getfield 134, 3) := by decide +kernel
theorem dX11_visit_38 : decode cX11_visit 38 = .ok (.invokevirtual 168, 3) := by decide +kernel
theorem dX11_visit_41 : decode cX11_visit 41 = .ok (.iload_n 2, 1) := by decide +kernel
theorem dX11_visit_42 : decode cX11_visit 42 = .ok (.iconst 1, 1) := by decide +kernel
theorem dX11_visit_43 : decode cX11_visit 43 = .ok (.if_icmp .ne 11, 3) := by decide +kernel
theorem dX11_visit_46 : decode cX11_visit 46 = .ok (.aload_n 0, 1) := by decide +kernel
theorem dX11_visit_47 : decode cX11_visit 47 = .ok (.getfield 71, 3) := by decide +kernel
theorem dX11_visit_50 : decode cX11_visit 50 = .ok (.getfield 172, 3) := by decide +kernel
theorem dX11_visit_53 : decode cX11_visit 53 = .ok (.ireturn, 1) := by decide +kernel
theorem dX11_visit_54 : decode cX11_visit 54 = .ok (.aload_n 0, 1) := by decide +kernel
theorem dX11_visit_55 : decode cX11_visit 55 = .ok (.getfield 71, 3) := by decide +kernel
theorem dX11_visit_58 : decode cX11_visit 58 = .ok (.getfield 175, 3) := by decide +kernel
theorem dX11_visit_61 : decode cX11_visit 61 = .ok (.ifCond .eq 7, 3) := by decide +kernel
theorem dX11_visit_64 : decode cX11_visit 64 = .ok (.iconst 1, 1) := by decide +kernel
theorem dX11_visit_65 : decode cX11_visit 65 = .ok (.goto 4, 3) := by decide +kernel
theorem dX11_visit_68 : decode cX11_visit 68 = .ok (.iconst 0, 1) := by decide +kernel
theorem dX11_visit_69 : decode cX11_visit 69 = .ok (.ireturn, 1) := by decide +kernel
theorem dX11_opened_0 : decode cX11_opened 0 = .ok (.aload_n 0, 1) := by decide +kernel
theorem dX11_opened_1 : decode cX11_opened 1 = .ok (.iload_n 1, 1) := by decide +kernel
theorem dX11_opened_2 : decode cX11_opened 2 = .ok (.invokevirtual 153, 3) := by decide +kernel
theorem dX11_opened_5 : decode cX11_opened 5 = .ok (.ifCond .ne 6, 3) := by decide +kernel
theorem dX11_opened_8 : decode cX11_opened 8 = .ok (.bipush (-2), 2) := by decide +kernel
theorem dX11_opened_10 : decode cX11_opened 10 = .ok (.ireturn, 1) := by decide +kernel
theorem dX11_opened_11 : decode cX11_opened 11 = .ok (.iload_n 2, 1) := by decide +kernel
theorem dX11_opened_12 : decode cX11_opened 12 = .ok (.ifCond .ge 6, 3) := by decide +kernel
theorem dX11_opened_15 : decode cX11_opened 15 = .ok (.bipush (-3), 2) := by decide +kernel
theorem dX11_opened_17 : decode cX11_opened 17 = .ok (.ireturn, 1) := by decide +kernel
theorem dX11_opened_18 : decode cX11_opened 18 = .ok (.aload_n 0, 1) := by decide +kernel
theorem dX11_opened_19 : decode cX11_opened 19 = .ok (.getfield 71, 3) := by decide +kernel
theorem dX11_opened_22 : decode cX11_opened 22 = .ok (.iload_n 1, 1) := by decide +kernel
theorem dX11_opened_23 : decode cX11_opened 23 = .ok (.aload_n 0, 1) := by decide +kernel
theorem dX11_opened_24 : decode cX11_opened 24 = .ok (.getfield 27, 3) := by decide +kernel
theorem dX11_opened_27 : decode cX11_opened 27 = .ok (.getfield 128, 3) := by decide +kernel
theorem dX11_opened_30 : decode cX11_opened 30 = .ok (.aload_n 0, 1) := by decide +kernel
theorem dX11_opened_31 : decode cX11_opened 31 = .ok (.getfield 27, 3) := by decide +kernel
theorem dX11_opened_34 : decode cX11_opened 34 = .ok (.getfield 134, 3) := by decide +kernel
theorem dX11_opened_37 : decode cX11_opened 37 = .ok (.invokevirtual 168, 3) := by decide +kernel
theorem dX11_opened_40 : decode cX11_opened 40 = .ok (.iload_n 2, 1) := by decide +kernel
theorem dX11_opened_41 : decode cX11_opened 41 = .ok (.aload_n 0, 1) := by decide +kernel
theorem dX11_opened_42 : decode cX11_opened 42 = .ok (.getfield 71, 3) := by decide +kernel
theorem dX11_opened_45 : decode cX11_opened 45 = .ok (.getfield 172, 3) := by decide +kernel
theorem dX11_opened_48 : decode cX11_opened 48 = .ok (.if_icmp .ge 14, 3) := by decide +kernel
theorem dX11_opened_51 : decode cX11_opened 51 = .ok (.aload_n 0, 1) := by decide +kernel
theorem dX11_opened_52 : decode cX11_opened 52 = .ok (.getfield 71, 3) := by decide +kernel
theorem dX11_opened_55 : decode cX11_opened 55 = .ok (.iload_n 2, 1) := by decide +kernel
theorem dX11_opened_56 : decode cX11_opened 56 = .ok (.invokevirtual 179, 3) := by decide +kernel
theorem dX11_opened_59 : decode cX11_opened 59 = .ok (.goto 4, 3) := by decide +kernel
theorem dX11_opened_62 : decode cX11_opened 62 = .ok (.iconst (-1), 1) := by decide +kernel
theorem dX11_opened_63 : decode cX11_opened 63 = .ok (.ireturn, 1) := by decide +kernel
theorem dX11_letOff_0 : decode cX11_letOff 0 = .ok (.aload_n 0, 1) := by decide +kernel
theorem dX11_letOff_1 : decode cX11_letOff 1 = .ok (.getfield 71, 3) := by decide +kernel
theorem dX11_letOff_4 : decode cX11_letOff 4 = .ok (.aload_n 0, 1) := by decide +kernel
theorem dX11_letOff_5 : decode cX11_letOff 5 = .ok (.getfield 27, 3) := by decide +kernel
theorem dX11_letOff_8 : decode cX11_letOff 8 = .ok (.getfield 128, 3) := by decide +kernel
theorem dX11_letOff_11 : decode cX11_letOff 11 = .ok (.aload_n 0, 1) := by decide +kernel
theorem dX11_letOff_12 : decode cX11_letOff 12 = .ok (.getfield 27, 3) := by decide +kernel
theorem dX11_letOff_15 : decode cX11_letOff 15 = .ok (.getfield 134, 3) := by decide +kernel
theorem dX11_letOff_18 : decode cX11_letOff 18 = .ok (.invokevirtual 183, 3) := by decide +kernel
theorem dX11_letOff_21 : decode cX11_letOff 21 = .ok (.ireturn, 1) := by decide +kernel
theorem dX11_howManyFree_0 : decode cX11_howManyFree 0 = .ok (.aload_n 0, 1) := by decide +kernel
theorem dX11_howManyFree_1 : decode cX11_howManyFree 1 = .ok (.getfield 71, 3) := by decide +kernel
theorem dX11_howManyFree_4 : decode cX11_howManyFree 4 = .ok (.aload_n 0, 1) := by decide +kernel
theorem dX11_howManyFree_5 : decode cX11_howManyFree 5 = .ok (.getfield 27, 3) := by decide +kernel
theorem dX11_howManyFree_8 : decode cX11_howManyFree 8 = .ok (.getfield 128, 3) := by decide +kernel
theorem dX11_howManyFree_11 : decode cX11_howManyFree 11 = .ok (.aload_n 0, 1) := by decide +kernel
theorem dX11_howManyFree_12 : decode cX11_howManyFree 12 = .ok (.getfield 27, 3) := by decide +kernel
theorem dX11_howManyFree_15 : decode cX11_howManyFree 15 = .ok (.getfield 134, 3) := by decide +kernel
theorem dX11_howManyFree_18 : decode cX11_howManyFree 18 = .ok (.invokevirtual 183, 3) := by decide +kernel
theorem dX11_howManyFree_21 : decode cX11_howManyFree 21 = .ok (.invokestatic 186, 3) := by decide +kernel
theorem dX11_howManyFree_24 : decode cX11_howManyFree 24 = .ok (.ireturn, 1) := by decide +kernel
theorem dX11_swap_0 : decode cX11_swap 0 = .ok (.aload_n 0, 1) := by decide +kernel
theorem dX11_swap_1 : decode cX11_swap 1 = .ok (.iload_n 1, 1) := by decide +kernel
theorem dX11_swap_2 : decode cX11_swap 2 = .ok (.iload_n 2, 1) := by decide +kernel
theorem dX11_swap_3 : decode cX11_swap 3 = .ok (.invokevirtual 191, 3) := by decide +kernel
theorem dX11_swap_6 : decode cX11_swap 6 = .ok (.ifCond .ne 6, 3) := by decide +kernel
theorem dX11_swap_9 : decode cX11_swap 9 = .ok (.bipush (-11), 2) := by decide +kernel
theorem dX11_swap_11 : decode cX11_swap 11 = .ok (.ireturn, 1) := by decide +kernel
theorem dX11_swap_12 : decode cX11_swap 12 = .ok (.aload_n 0, 1) := by decide +kernel
theorem dX11_swap_13 : decode cX11_swap 13 = .ok (.aload_n 0, 1) := by decide +kernel
theorem dX11_swap_14 : decode cX11_swap 14 = .ok (.getfield 27, 3) := by decide +kernel
theorem dX11_swap_17 : decode cX11_swap 17 = .ok (.invokevirtual 194, 3) := by decide +kernel
theorem dX11_swap_20 : decode cX11_swap 20 = .ok (.aload_n 0, 1) := by decide +kernel
theorem dX11_swap_21 : decode cX11_swap 21 = .ok (.getfield 27, 3) := by decide +kernel
theorem dX11_swap_24 : decode cX11_swap 24 = .ok (.aload_n 0, 1) := by decide +kernel
theorem dX11_swap_25 : decode cX11_swap 25 = .ok (.getfield 62, 3) := by decide +kernel
theorem dX11_swap_28 : decode cX11_swap 28 = .ok (.aload_n 0, 1) := by decide +kernel
theorem dX11_swap_29 : decode cX11_swap 29 = .ok (.getfield 27, 3) := by decide +kernel
theorem dX11_swap_32 : decode cX11_swap 32 = .ok (.getfield 128, 3) := by decide +kernel
theorem dX11_swap_35 : decode cX11_swap 35 = .ok (.iload_n 1, 1) := by decide +kernel
theorem dX11_swap_36 : decode cX11_swap 36 = .ok (.iload_n 2, 1) := by decide +kernel
theorem dX11_swap_37 : decode cX11_swap 37 = .ok (.invokevirtual 198, 3) := by decide +kernel
theorem dX11_swap_40 : decode cX11_swap 40 = .ok (.putfield 128, 3) := by decide +kernel
theorem dX11_swap_43 : decode cX11_swap 43 = .ok (.aload_n 0, 1) := by decide +kernel
theorem dX11_swap_44 : decode cX11_swap 44 = .ok (.invokevirtual 202, 3) := by decide +kernel
theorem dX11_swap_47 : decode cX11_swap 47 = .ok (.ireturn, 1) := by decide +kernel
theorem dX11_canSwap_0 : decode cX11_canSwap 0 = .ok (.aload_n 0, 1) := by decide +kernel
theorem dX11_canSwap_1 : decode cX11_canSwap 1 = .ok (.iload_n 1, 1) := by decide +kernel
theorem dX11_canSwap_2 : decode cX11_canSwap 2 = .ok (.invokevirtual 153, 3) := by decide +kernel
theorem dX11_canSwap_5 : decode cX11_canSwap 5 = .ok (.ifCond .eq 20, 3) := by decide +kernel
theorem dX11_canSwap_8 : decode cX11_canSwap 8 = .ok (.aload_n 0, 1) := by decide +kernel
theorem dX11_canSwap_9 : decode cX11_canSwap 9 = .ok (.iload_n 2, 1) := by decide +kernel
theorem dX11_canSwap_10 : decode cX11_canSwap 10 = .ok (.invokevirtual 153, 3) := by decide +kernel
theorem dX11_canSwap_13 : decode cX11_canSwap 13 = .ok (.ifCond .eq 12, 3) := by decide +kernel
theorem dX11_canSwap_16 : decode cX11_canSwap 16 = .ok (.iload_n 1, 1) := by decide +kernel
theorem dX11_canSwap_17 : decode cX11_canSwap 17 = .ok (.iload_n 2, 1) := by decide +kernel
theorem dX11_canSwap_18 : decode cX11_canSwap 18 = .ok (.if_icmp .eq 7, 3) := by decide +kernel
theorem dX11_canSwap_21 : decode cX11_canSwap 21 = .ok (.iconst 1, 1) := by decide +kernel
theorem dX11_canSwap_22 : decode cX11_canSwap 22 = .ok (.goto 4, 3) := by decide +kernel
theorem dX11_canSwap_25 : decode cX11_canSwap 25 = .ok (.iconst 0, 1) := by decide +kernel
theorem dX11_canSwap_26 : decode cX11_canSwap 26 = .ok (.ireturn, 1) := by decide +kernel
theorem dX11_nights_0 : decode cX11_nights 0 = .ok (.iload_n 1, 1) := by decide +kernel
theorem dX11_nights_1 : decode cX11_nights 1 = .ok (.iconst 1, 1) := by decide +kernel
theorem dX11_nights_2 : decode cX11_nights 2 = .ok (.if_icmp .lt 9, 3) := by decide +kernel
theorem dX11_nights_5 : decode cX11_nights 5 = .ok (.iload_n 1, 1) := by decide +kernel
theorem dX11_nights_6 : decode cX11_nights 6 = .ok (.bipush 99, 2) := by decide +kernel
theorem dX11_nights_8 : decode cX11_nights 8 = .ok (.if_icmp .le 6, 3) := by decide +kernel
theorem dX11_nights_11 : decode cX11_nights 11 = .ok (.bipush (-3), 2) := by decide +kernel
theorem dX11_nights_13 : decode cX11_nights 13 = .ok (.ireturn, 1) := by decide +kernel
theorem dX11_nights_14 : decode cX11_nights 14 = .ok (.aload_n 0, 1) := by decide +kernel
theorem dX11_nights_15 : decode cX11_nights 15 = .ok (.aload_n 0, 1) := by decide +kernel
theorem dX11_nights_16 : decode cX11_nights 16 = .ok (.getfield 27, 3) := by decide +kernel
theorem dX11_nights_19 : decode cX11_nights 19 = .ok (.invokevirtual 194, 3) := by decide +kernel
theorem dX11_nights_22 : decode cX11_nights 22 = .ok (.aload_n 0, 1) := by decide +kernel
theorem dX11_nights_23 : decode cX11_nights 23 = .ok (.getfield 27, 3) := by decide +kernel
theorem dX11_nights_26 : decode cX11_nights 26 = .ok (.aload_n 0, 1) := by decide +kernel
theorem dX11_nights_27 : decode cX11_nights 27 = .ok (.iload_n 1, 1) := by decide +kernel
theorem dX11_nights_28 : decode cX11_nights 28 = .ok (.i2l, 1) := by decide +kernel
theorem dX11_nights_29 : decode cX11_nights 29 = .ok (.invokevirtual 206, 3) := by decide +kernel
theorem dX11_nights_32 : decode cX11_nights 32 = .ok (.putfield 128, 3) := by decide +kernel
theorem dX11_nights_35 : decode cX11_nights 35 = .ok (.aload_n 0, 1) := by decide +kernel
theorem dX11_nights_36 : decode cX11_nights 36 = .ok (.getfield 27, 3) := by decide +kernel
theorem dX11_nights_39 : decode cX11_nights 39 = .ok (.dup, 1) := by decide +kernel
theorem dX11_nights_40 : decode cX11_nights 40 = .ok (.getfield 137, 3) := by decide +kernel
theorem dX11_nights_43 : decode cX11_nights 43 = .ok (.iload_n 1, 1) := by decide +kernel
theorem dX11_nights_44 : decode cX11_nights 44 = .ok (.iadd, 1) := by decide +kernel
theorem dX11_nights_45 : decode cX11_nights 45 = .ok (.putfield 137, 3) := by decide +kernel
theorem dX11_nights_48 : decode cX11_nights 48 = .ok (.aload_n 0, 1) := by decide +kernel
theorem dX11_nights_49 : decode cX11_nights 49 = .ok (.invokevirtual 202, 3) := by decide +kernel
theorem dX11_nights_52 : decode cX11_nights 52 = .ok (.ireturn, 1) := by decide +kernel
theorem dX11_rowBehind_0 : decode cX11_rowBehind 0 = .ok (.aload_n 0, 1) := by decide +kernel
theorem dX11_rowBehind_1 : decode cX11_rowBehind 1 = .ok (.getfield 62, 3) := by decide +kernel
theorem dX11_rowBehind_4 : decode cX11_rowBehind 4 = .ok (.aload_n 0, 1) := by decide +kernel
theorem dX11_rowBehind_5 : decode cX11_rowBehind 5 = .ok (.getfield 27, 3) := by decide +kernel
theorem dX11_rowBehind_8 : decode cX11_rowBehind 8 = .ok (.getfield 128, 3) := by decide +kernel
theorem dX11_rowBehind_11 : decode cX11_rowBehind 11 = .ok (.aload_n 0, 1) := by decide +kernel
theorem dX11_rowBehind_12 : decode cX11_rowBehind 12 = .ok (.getfield 62, 3) := by decide +kernel
theorem dX11_rowBehind_15 : decode cX11_rowBehind 15 = .ok (.aload_n 0, 1) := by decide +kernel
theorem dX11_rowBehind_16 : decode cX11_rowBehind 16 = .ok (.getfield 106, 3) := by decide +kernel
theorem dX11_rowBehind_19 : decode cX11_rowBehind 19 = .ok (.getfield 161, 3) := by decide +kernel
theorem dX11_rowBehind_22 : decode cX11_rowBehind 22 = .ok (.lload_n 1, 1) := by decide +kernel
theorem dX11_rowBehind_23 : decode cX11_rowBehind 23 = .ok (.invokevirtual 210, 3) := by decide +kernel
theorem dX11_rowBehind_26 : decode cX11_rowBehind 26 = .ok (.invokevirtual 214, 3) := by decide +kernel
theorem dX11_rowBehind_29 : decode cX11_rowBehind 29 = .ok (.ireturn, 1) := by decide +kernel
theorem dX11_clue_0 : decode cX11_clue 0 = .ok (.iload_n 1, 1) := by decide +kernel
theorem dX11_clue_1 : decode cX11_clue 1 = .ok (.bipush 10, 2) := by decide +kernel
theorem dX11_clue_3 : decode cX11_clue 3 = .ok (.invokestatic 157, 3) := by decide +kernel
theorem dX11_clue_6 : decode cX11_clue 6 = .ok (.ifCond .ne 6, 3) := by decide +kernel
theorem dX11_clue_9 : decode cX11_clue 9 = .ok (.bipush (-11), 2) := by decide +kernel
theorem dX11_clue_11 : decode cX11_clue 11 = .ok (.ireturn, 1) := by decide +kernel
theorem dX11_clue_12 : decode cX11_clue 12 = .ok (.aload_n 0, 1) := by decide +kernel
theorem dX11_clue_13 : decode cX11_clue 13 = .ok (.aload_n 0, 1) := by decide +kernel
theorem dX11_clue_14 : decode cX11_clue 14 = .ok (.getfield 27, 3) := by decide +kernel
theorem dX11_clue_17 : decode cX11_clue 17 = .ok (.invokevirtual 194, 3) := by decide +kernel
theorem dX11_clue_20 : decode cX11_clue 20 = .ok (.aload_n 0, 1) := by decide +kernel
theorem dX11_clue_21 : decode cX11_clue 21 = .ok (.getfield 27, 3) := by decide +kernel
theorem dX11_clue_24 : decode cX11_clue 24 = .ok (.getfield 134, 3) := by decide +kernel
theorem dX11_clue_27 : decode cX11_clue 27 = .ok (.istore_n 2, 1) := by decide +kernel
theorem dX11_clue_28 : decode cX11_clue 28 = .ok (.aload_n 0, 1) := by decide +kernel
theorem dX11_clue_29 : decode cX11_clue 29 = .ok (.getfield 27, 3) := by decide +kernel
theorem dX11_clue_32 : decode cX11_clue 32 = .ok (.iload_n 1, 1) := by decide +kernel
theorem dX11_clue_33 : decode cX11_clue 33 = .ok (.putfield 134, 3) := by decide +kernel
theorem dX11_clue_36 : decode cX11_clue 36 = .ok (.iload_n 2, 1) := by decide +kernel
theorem dX11_clue_37 : decode cX11_clue 37 = .ok (.ireturn, 1) := by decide +kernel
theorem dX11_undo_0 : decode cX11_undo 0 = .ok (.iload_n 1, 1) := by decide +kernel
theorem dX11_undo_1 : decode cX11_undo 1 = .ok (.iconst 1, 1) := by decide +kernel
theorem dX11_undo_2 : decode cX11_undo 2 = .ok (.if_icmp .lt 17, 3) := by decide +kernel
theorem dX11_undo_5 : decode cX11_undo 5 = .ok (.iload_n 1, 1) := by decide +kernel
theorem dX11_undo_6 : decode cX11_undo 6 = .ok (.bipush 10, 2) := by decide +kernel
theorem dX11_undo_8 : decode cX11_undo 8 = .ok (.if_icmp .gt 11, 3) := by decide +kernel
theorem dX11_undo_11 : decode cX11_undo 11 = .ok (.iload_n 1, 1) := by decide +kernel
theorem dX11_undo_12 : decode cX11_undo 12 = .ok (.aload_n 0, 1) := by decide +kernel
theorem dX11_undo_13 : decode cX11_undo 13 = .ok (.getfield 41, 3) := by decide +kernel
theorem dX11_undo_16 : decode cX11_undo 16 = .ok (.if_icmp .le 6, 3) := by decide +kernel
theorem dX11_undo_19 : decode cX11_undo 19 = .ok (.bipush (-3), 2) := by decide +kernel
theorem dX11_undo_21 : decode cX11_undo 21 = .ok (.ireturn, 1) := by decide +kernel
theorem dX11_undo_22 : decode cX11_undo 22 = .ok (.aload_n 0, 1) := by decide +kernel
theorem dX11_undo_23 : decode cX11_undo 23 = .ok (.dup, 1) := by decide +kernel
theorem dX11_undo_24 : decode cX11_undo 24 = .ok (.getfield 41, 3) := by decide +kernel
theorem dX11_undo_27 : decode cX11_undo 27 = .ok (.iload_n 1, 1) := by decide +kernel
theorem dX11_undo_28 : decode cX11_undo 28 = .ok (.isub, 1) := by decide +kernel
theorem dX11_undo_29 : decode cX11_undo 29 = .ok (.putfield 41, 3) := by decide +kernel
theorem dX11_undo_32 : decode cX11_undo 32 = .ok (.aload_n 0, 1) := by decide +kernel
theorem dX11_undo_33 : decode cX11_undo 33 = .ok (.getfield 27, 3) := by decide +kernel
theorem dX11_undo_36 : decode cX11_undo 36 = .ok (.aload_n 0, 1) := by decide +kernel
theorem dX11_undo_37 : decode cX11_undo 37 = .ok (.getfield 37, 3) := by decide +kernel
theorem dX11_undo_40 : decode cX11_undo 40 = .ok (.aload_n 0, 1) := by decide +kernel
theorem dX11_undo_41 : decode cX11_undo 41 = .ok (.getfield 41, 3) := by decide +kernel
theorem dX11_undo_44 : decode cX11_undo 44 = .ok (.aaload, 1) := by decide +kernel
theorem dX11_undo_45 : decode cX11_undo 45 = .ok (.invokevirtual 217, 3) := by decide +kernel
theorem dX11_undo_48 : decode cX11_undo 48 = .ok (.aload_n 0, 1) := by decide +kernel
theorem dX11_undo_49 : decode cX11_undo 49 = .ok (.getfield 41, 3) := by decide +kernel
theorem dX11_undo_52 : decode cX11_undo 52 = .ok (.ireturn, 1) := by decide +kernel
theorem dX11_keepForUndoing_0 : decode cX11_keepForUndoing 0 = .ok (.aload_n 0, 1) := by decide +kernel
theorem dX11_keepForUndoing_1 : decode cX11_keepForUndoing 1 = .ok (.getfield 41, 3) := by decide +kernel
theorem dX11_keepForUndoing_4 : decode cX11_keepForUndoing 4 = .ok (.bipush 10, 2) := by decide +kernel
theorem dX11_keepForUndoing_6 : decode cX11_keepForUndoing 6 = .ok (.if_icmp .lt 7, 3) := by decide +kernel
theorem dX11_keepForUndoing_9 : decode cX11_keepForUndoing 9 = .ok (.aload_n 0, 1) := by decide +kernel
theorem dX11_keepForUndoing_10 : decode cX11_keepForUndoing 10 = .ok (.invokevirtual 220, 3) := by decide +kernel
theorem dX11_keepForUndoing_13 : decode cX11_keepForUndoing 13 = .ok (.aload_n 0, 1) := by decide +kernel
theorem dX11_keepForUndoing_14 : decode cX11_keepForUndoing 14 = .ok (.getfield 37, 3) := by decide +kernel
theorem dX11_keepForUndoing_17 : decode cX11_keepForUndoing 17 = .ok (.aload_n 0, 1) := by decide +kernel
theorem dX11_keepForUndoing_18 : decode cX11_keepForUndoing 18 = .ok (.getfield 41, 3) := by decide +kernel
theorem dX11_keepForUndoing_21 : decode cX11_keepForUndoing 21 = .ok (.aaload, 1) := by decide +kernel
theorem dX11_keepForUndoing_22 : decode cX11_keepForUndoing 22 = .ok (.aload_n 1, 1) := by decide +kernel
theorem dX11_keepForUndoing_23 : decode cX11_keepForUndoing 23 = .ok (.invokevirtual 217, 3) := by decide +kernel
theorem dX11_keepForUndoing_26 : decode cX11_keepForUndoing 26 = .ok (.aload_n 0, 1) := by decide +kernel
theorem dX11_keepForUndoing_27 : decode cX11_keepForUndoing 27 = .ok (.dup, 1) := by decide +kernel
theorem dX11_keepForUndoing_28 : decode cX11_keepForUndoing 28 = .ok (.getfield 41, 3) := by decide +kernel
theorem dX11_keepForUndoing_31 : decode cX11_keepForUndoing 31 = .ok (.iconst 1, 1) := by decide +kernel
theorem dX11_keepForUndoing_32 : decode cX11_keepForUndoing 32 = .ok (.iadd, 1) := by decide +kernel
theorem dX11_keepForUndoing_33 : decode cX11_keepForUndoing 33 = .ok (.putfield 41, 3) := by decide +kernel
theorem dX11_keepForUndoing_36 : decode cX11_keepForUndoing 36 = .ok (.return_, 1) := by decide +kernel
theorem dX11_forgetEldest_0 : decode cX11_forgetEldest 0 = .ok (.aload_n 0, 1) := by decide +kernel
theorem dX11_forgetEldest_1 : decode cX11_forgetEldest 1 = .ok (.getfield 37, 3) := by decide +kernel
theorem dX11_forgetEldest_4 : decode cX11_forgetEldest 4 = .ok (.iconst 0, 1) := by decide +kernel
theorem dX11_forgetEldest_5 : decode cX11_forgetEldest 5 = .ok (.aaload, 1) := by decide +kernel
theorem dX11_forgetEldest_6 : decode cX11_forgetEldest 6 = .ok (.astore_n 1, 1) := by decide +kernel
theorem dX11_forgetEldest_7 : decode cX11_forgetEldest 7 = .ok (.iconst 1, 1) := by decide +kernel
theorem dX11_forgetEldest_8 : decode cX11_forgetEldest 8 = .ok (.istore_n 2, 1) := by decide +kernel
theorem dX11_forgetEldest_9 : decode cX11_forgetEldest 9 = .ok (.iload_n 2, 1) := by decide +kernel
theorem dX11_forgetEldest_10 : decode cX11_forgetEldest 10 = .ok (.aload_n 0, 1) := by decide +kernel
theorem dX11_forgetEldest_11 : decode cX11_forgetEldest 11 = .ok (.getfield 37, 3) := by decide +kernel
theorem dX11_forgetEldest_14 : decode cX11_forgetEldest 14 = .ok (.arraylength, 1) := by decide +kernel
theorem dX11_forgetEldest_15 : decode cX11_forgetEldest 15 = .ok (.if_icmp .ge 23, 3) := by decide +kernel
theorem dX11_forgetEldest_18 : decode cX11_forgetEldest 18 = .ok (.aload_n 0, 1) := by decide +kernel
theorem dX11_forgetEldest_19 : decode cX11_forgetEldest 19 = .ok (.getfield 37, 3) := by decide +kernel
theorem dX11_forgetEldest_22 : decode cX11_forgetEldest 22 = .ok (.iload_n 2, 1) := by decide +kernel
theorem dX11_forgetEldest_23 : decode cX11_forgetEldest 23 = .ok (.iconst 1, 1) := by decide +kernel
theorem dX11_forgetEldest_24 : decode cX11_forgetEldest 24 = .ok (.isub, 1) := by decide +kernel
theorem dX11_forgetEldest_25 : decode cX11_forgetEldest 25 = .ok (.aload_n 0, 1) := by decide +kernel
theorem dX11_forgetEldest_26 : decode cX11_forgetEldest 26 = .ok (.getfield 37, 3) := by decide +kernel
theorem dX11_forgetEldest_29 : decode cX11_forgetEldest 29 = .ok (.iload_n 2, 1) := by decide +kernel
theorem dX11_forgetEldest_30 : decode cX11_forgetEldest 30 = .ok (.aaload, 1) := by decide +kernel
theorem dX11_forgetEldest_31 : decode cX11_forgetEldest 31 = .ok (.aastore, 1) := by decide +kernel
theorem dX11_forgetEldest_32 : decode cX11_forgetEldest 32 = .ok (.iinc 2 1, 3) := by decide +kernel
theorem dX11_forgetEldest_35 : decode cX11_forgetEldest 35 = .ok (.goto (-26), 3) := by decide +kernel
theorem dX11_forgetEldest_38 : decode cX11_forgetEldest 38 = .ok (.aload_n 0, 1) := by decide +kernel
theorem dX11_forgetEldest_39 : decode cX11_forgetEldest 39 = .ok (.getfield 37, 3) := by decide +kernel
theorem dX11_forgetEldest_42 : decode cX11_forgetEldest 42 = .ok (.aload_n 0, 1) := by decide +kernel
theorem dX11_forgetEldest_43 : decode cX11_forgetEldest 43 = .ok (.getfield 37, 3) := by decide +kernel
theorem dX11_forgetEldest_46 : decode cX11_forgetEldest 46 = .ok (.arraylength, 1) := by decide +kernel
theorem dX11_forgetEldest_47 : decode cX11_forgetEldest 47 = .ok (.iconst 1, 1) := by decide +kernel
theorem dX11_forgetEldest_48 : decode cX11_forgetEldest 48 = .ok (.isub, 1) := by decide +kernel
theorem dX11_forgetEldest_49 : decode cX11_forgetEldest 49 = .ok (.aload_n 1, 1) := by decide +kernel
theorem dX11_forgetEldest_50 : decode cX11_forgetEldest 50 = .ok (.aastore, 1) := by decide +kernel
theorem dX11_forgetEldest_51 : decode cX11_forgetEldest 51 = .ok (.aload_n 0, 1) := by decide +kernel
theorem dX11_forgetEldest_52 : decode cX11_forgetEldest 52 = .ok (.aload_n 0, 1) := by decide +kernel
theorem dX11_forgetEldest_53 : decode cX11_forgetEldest 53 = .ok (.getfield 37, 3) := by decide +kernel
theorem dX11_forgetEldest_56 : decode cX11_forgetEldest 56 = .ok (.arraylength, 1) := by decide +kernel
theorem dX11_forgetEldest_57 : decode cX11_forgetEldest 57 = .ok (.iconst 1, 1) := by decide +kernel
theorem dX11_forgetEldest_58 : decode cX11_forgetEldest 58 = .ok (.isub, 1) := by decide +kernel
theorem dX11_forgetEldest_59 : decode cX11_forgetEldest 59 = .ok (.putfield 41, 3) := by decide +kernel
theorem dX11_forgetEldest_62 : decode cX11_forgetEldest 62 = .ok (.return_, 1) := by decide +kernel
theorem dX11_judge_0 : decode cX11_judge 0 = .ok (.iload_n 1, 1) := by decide +kernel
theorem dX11_judge_1 : decode cX11_judge 1 = .ok (.iconst 4, 1) := by decide +kernel
theorem dX11_judge_2 : decode cX11_judge 2 = .ok (.invokestatic 157, 3) := by decide +kernel
theorem dX11_judge_5 : decode cX11_judge 5 = .ok (.ifCond .eq 11, 3) := by decide +kernel
theorem dX11_judge_8 : decode cX11_judge 8 = .ok (.iload_n 2, 1) := by decide +kernel
theorem dX11_judge_9 : decode cX11_judge 9 = .ok (.iconst 4, 1) := by decide +kernel
theorem dX11_judge_10 : decode cX11_judge 10 = .ok (.invokestatic 157, 3) := by decide +kernel
theorem dX11_judge_13 : decode cX11_judge 13 = .ok (.ifCond .ne 6, 3) := by decide +kernel
theorem dX11_judge_16 : decode cX11_judge 16 = .ok (.bipush (-2), 2) := by decide +kernel
theorem dX11_judge_18 : decode cX11_judge 18 = .ok (.ireturn, 1) := by decide +kernel
theorem dX11_judge_19 : decode cX11_judge 19 = .ok (.aload_n 0, 1) := by decide +kernel
theorem dX11_judge_20 : decode cX11_judge 20 = .ok (.getfield 49, 3) := by decide +kernel
theorem dX11_judge_23 : decode cX11_judge 23 = .ok (.iload_n 1, 1) := by decide +kernel
theorem dX11_judge_24 : decode cX11_judge 24 = .ok (.aaload, 1) := by decide +kernel
theorem dX11_judge_25 : decode cX11_judge 25 = .ok (.astore_n 3, 1) := by decide +kernel
theorem dX11_judge_26 : decode cX11_judge 26 = .ok (.aload_n 3, 1) := by decide +kernel
theorem dX11_judge_27 : decode cX11_judge 27 = .ok (.invokevirtual 223, 3) := by decide +kernel
theorem dX11_judge_30 : decode cX11_judge 30 = .ok (.ifCond .eq 6, 3) := by decide +kernel
theorem dX11_judge_33 : decode cX11_judge 33 = .ok (.bipush (-6), 2) := by decide +kernel
theorem dX11_judge_35 : decode cX11_judge 35 = .ok (.ireturn, 1) := by decide +kernel
theorem dX11_judge_36 : decode cX11_judge 36 = .ok (.aload_n 0, 1) := by decide +kernel
theorem dX11_judge_37 : decode cX11_judge 37 = .ok (.getfield 34, 3) := by decide +kernel
theorem dX11_judge_40 : decode cX11_judge 40 = .ok (.aload_n 0, 1) := by decide +kernel
theorem dX11_judge_41 : decode cX11_judge 41 = .ok (.getfield 27, 3) := by decide +kernel
theorem dX11_judge_44 : decode cX11_judge 44 = .ok (.invokevirtual 217, 3) := by decide +kernel
theorem dX11_judge_47 : decode cX11_judge 47 = .ok (.aload_n 0, 1) := by decide +kernel
theorem dX11_judge_48 : decode cX11_judge 48 = .ok (.aload_n 0, 1) := by decide +kernel
theorem dX11_judge_49 : decode cX11_judge 49 = .ok (.getfield 34, 3) := by decide +kernel
theorem dX11_judge_52 : decode cX11_judge 52 = .ok (.aload_n 3, 1) := by decide +kernel
theorem dX11_judge_53 : decode cX11_judge 53 = .ok (.invokevirtual 227, 3) := by decide +kernel
theorem dX11_judge_56 : decode cX11_judge 56 = .ok (.istore 4, 2) := by decide +kernel
theorem dX11_judge_58 : decode cX11_judge 58 = .ok (.iload_n 2, 1) := by decide +kernel
theorem dX11_judge_59 : decode cX11_judge 59 = .ok (.tableswitch 64 0 2 #[25, 41, 56], 25) := by decide +kernel
theorem dX11_judge_84 : decode cX11_judge 84 = .ok (.iload 4, 2) := by decide +kernel
theorem dX11_judge_86 : decode cX11_judge 86 = .ok (.aload_n 3, 1) := by decide +kernel
theorem dX11_judge_87 : decode cX11_judge 87 = .ok (.getfield 231, 3) := by decide +kernel
theorem dX11_judge_90 : decode cX11_judge 90 = .ok (.if_icmp .ge 8, 3) := by decide +kernel
theorem dX11_judge_93 : decode cX11_judge 93 = .ok (.iload 4, 2) := by decide +kernel
theorem dX11_judge_95 : decode cX11_judge 95 = .ok (.goto 4, 3) := by decide +kernel
theorem dX11_judge_98 : decode cX11_judge 98 = .ok (.iconst (-1), 1) := by decide +kernel
theorem dX11_judge_99 : decode cX11_judge 99 = .ok (.ireturn, 1) := by decide +kernel
theorem dX11_judge_100 : decode cX11_judge 100 = .ok (.iload 4, 2) := by decide +kernel
theorem dX11_judge_102 : decode cX11_judge 102 = .ok (.aload_n 3, 1) := by decide +kernel
theorem dX11_judge_103 : decode cX11_judge 103 = .ok (.getfield 231, 3) := by decide +kernel
theorem dX11_judge_106 : decode cX11_judge 106 = .ok (.if_icmp .ge 7, 3) := by decide +kernel
theorem dX11_judge_109 : decode cX11_judge 109 = .ok (.iconst 1, 1) := by decide +kernel
theorem dX11_judge_110 : decode cX11_judge 110 = .ok (.goto 4, 3) := by decide +kernel
theorem dX11_judge_113 : decode cX11_judge 113 = .ok (.iconst 0, 1) := by decide +kernel
theorem dX11_judge_114 : decode cX11_judge 114 = .ok (.ireturn, 1) := by decide +kernel
theorem dX11_judge_115 : decode cX11_judge 115 = .ok (.aload_n 0, 1) := by decide +kernel
theorem dX11_judge_116 : decode cX11_judge 116 = .ok (.getfield 34, 3) := by decide +kernel
theorem dX11_judge_119 : decode cX11_judge 119 = .ok (.getfield 128, 3) := by decide +kernel
theorem dX11_judge_122 : decode cX11_judge 122 = .ok (.ireturn, 1) := by decide +kernel
theorem dX11_judge_123 : decode cX11_judge 123 = .ok (.aload_n 0, 1) := by decide +kernel
theorem dX11_judge_124 : decode cX11_judge 124 = .ok (.getfield 71, 3) := by decide +kernel
theorem dX11_judge_127 : decode cX11_judge 127 = .ok (.aload_n 0, 1) := by decide +kernel
theorem dX11_judge_128 : decode cX11_judge 128 = .ok (.getfield 34, 3) := by decide +kernel
theorem dX11_judge_131 : decode cX11_judge 131 = .ok (.getfield 128, 3) := by decide +kernel
theorem dX11_judge_134 : decode cX11_judge 134 = .ok (.aload_n 0, 1) := by decide +kernel
theorem dX11_judge_135 : decode cX11_judge 135 = .ok (.getfield 34, 3) := by decide +kernel
theorem dX11_judge_138 : decode cX11_judge 138 = .ok (.getfield 134, 3) := by decide +kernel
theorem dX11_judge_141 : decode cX11_judge 141 = .ok (.invokevirtual 183, 3) := by decide +kernel
theorem dX11_judge_144 : decode cX11_judge 144 = .ok (.ireturn, 1) := by decide +kernel
theorem dX11_doDeeds_0 : decode cX11_doDeeds 0 = .ok (.iconst 0, 1) := by decide +kernel
theorem dX11_doDeeds_1 : decode cX11_doDeeds 1 = .ok (.istore_n 3, 1) := by decide +kernel
theorem dX11_doDeeds_2 : decode cX11_doDeeds 2 = .ok (.iload_n 3, 1) := by decide +kernel
theorem dX11_doDeeds_3 : decode cX11_doDeeds 3 = .ok (.aload_n 2, 1) := by decide +kernel
theorem dX11_doDeeds_4 : decode cX11_doDeeds 4 = .ok (.getfield 231, 3) := by decide +kernel
theorem dX11_doDeeds_7 : decode cX11_doDeeds 7 = .ok (.if_icmp .ge 22, 3) := by decide +kernel
theorem dX11_doDeeds_10 : decode cX11_doDeeds 10 = .ok (.aload_n 0, 1) := by decide +kernel
theorem dX11_doDeeds_11 : decode cX11_doDeeds 11 = .ok (.aload_n 1, 1) := by decide +kernel
theorem dX11_doDeeds_12 : decode cX11_doDeeds 12 = .ok (.aload_n 2, 1) := by decide +kernel
theorem dX11_doDeeds_13 : decode cX11_doDeeds 13 = .ok (.iload_n 3, 1) := by decide +kernel
theorem dX11_doDeeds_14 : decode cX11_doDeeds 14 = .ok (.invokevirtual 234, 3) := by decide +kernel
theorem dX11_doDeeds_17 : decode cX11_doDeeds 17 = .ok (.invokevirtual 238, 3) := by decide +kernel
theorem dX11_doDeeds_20 : decode cX11_doDeeds 20 = .ok (.ifCond .eq 9, 3) := by decide +kernel
theorem dX11_doDeeds_23 : decode cX11_doDeeds 23 = .ok (.iinc 3 1, 3) := by decide +kernel
theorem dX11_doDeeds_26 : decode cX11_doDeeds 26 = .ok (.goto (-24), 3) := by decide +kernel
theorem dX11_doDeeds_29 : decode cX11_doDeeds 29 = .ok (.iload_n 3, 1) := by decide +kernel
theorem dX11_doDeeds_30 : decode cX11_doDeeds 30 = .ok (.ireturn, 1) := by decide +kernel
theorem dX11_doDeed_0 : decode cX11_doDeed 0 = .ok (.lload_n 2, 1) := by decide +kernel
theorem dX11_doDeed_1 : decode cX11_doDeed 1 = .ok (.lconst 0, 1) := by decide +kernel
theorem dX11_doDeed_2 : decode cX11_doDeed 2 = .ok (.lcmp, 1) := by decide +kernel
theorem dX11_doDeed_3 : decode cX11_doDeed 3 = .ok (.ifCond .ne 37, 3) := by decide +kernel
theorem dX11_doDeed_6 : decode cX11_doDeed 6 = .ok (.aload_n 1, 1) := by decide +kernel
theorem dX11_doDeed_7 : decode cX11_doDeed 7 = .ok (.aload_n 0, 1) := by decide +kernel
theorem dX11_doDeed_8 : decode cX11_doDeed 8 = .ok (.getfield 62, 3) := by decide +kernel
theorem dX11_doDeed_11 : decode cX11_doDeed 11 = .ok (.aload_n 1, 1) := by decide +kernel
theorem dX11_doDeed_12 : decode cX11_doDeed 12 = .ok (.getfield 128, 3) := by decide +kernel
theorem dX11_doDeed_15 : decode cX11_doDeed 15 = .ok (.aload_n 0, 1) := by decide +kernel
theorem dX11_doDeed_16 : decode cX11_doDeed 16 = .ok (.getfield 106, 3) := by decide +kernel
theorem dX11_doDeed_19 : decode cX11_doDeed 19 = .ok (.getfield 161, 3) := by decide +kernel
theorem dX11_doDeed_22 : decode cX11_doDeed 22 = .ok (.invokevirtual 214, 3) := by decide +kernel
theorem dX11_doDeed_25 : decode cX11_doDeed 25 = .ok (.putfield 128, 3) := by decide +kernel
theorem dX11_doDeed_28 : decode cX11_doDeed 28 = .ok (.aload_n 1, 1) := by decide +kernel
theorem dX11_doDeed_29 : decode cX11_doDeed 29 = .ok (.dup, 1) := by decide +kernel
theorem dX11_doDeed_30 : decode cX11_doDeed 30 = .ok (.getfield 137, 3) := by decide +kernel
theorem dX11_doDeed_33 : decode cX11_doDeed 33 = .ok (.iconst 1, 1) := by decide +kernel
theorem dX11_doDeed_34 : decode cX11_doDeed 34 = .ok (.iadd, 1) := by decide +kernel
theorem dX11_doDeed_35 : decode cX11_doDeed 35 = .ok (.putfield 137, 3) := by decide +kernel
theorem dX11_doDeed_38 : decode cX11_doDeed 38 = .ok (.iconst 1, 1) := by decide +kernel
theorem dX11_doDeed_39 : decode cX11_doDeed 39 = .ok (.ireturn, 1) := by decide +kernel
theorem dX11_doDeed_40 : decode cX11_doDeed 40 = .ok (.lload_n 2, 1) := by decide +kernel
theorem dX11_doDeed_41 : decode cX11_doDeed 41 = .ok (.ldc2_w 242, 3) := by decide +kernel
theorem dX11_doDeed_44 : decode cX11_doDeed 44 = .ok (.lcmp, 1) := by decide +kernel
theorem dX11_doDeed_45 : decode cX11_doDeed 45 = .ok (.ifCond .lt 23, 3) := by decide +kernel
theorem dX11_doDeed_48 : decode cX11_doDeed 48 = .ok (.lload_n 2, 1) := by decide +kernel
theorem dX11_doDeed_49 : decode cX11_doDeed 49 = .ok (.ldc2_w 244, 3) := by decide +kernel
theorem dX11_doDeed_52 : decode cX11_doDeed 52 = .ok (.lcmp, 1) := by decide +kernel
theorem dX11_doDeed_53 : decode cX11_doDeed 53 = .ok (.ifCond .ge 15, 3) := by decide +kernel
theorem dX11_doDeed_56 : decode cX11_doDeed 56 = .ok (.aload_n 1, 1) := by decide +kernel
theorem dX11_doDeed_57 : decode cX11_doDeed 57 = .ok (.lload_n 2, 1) := by decide +kernel
theorem dX11_doDeed_58 : decode cX11_doDeed 58 = .ok (.ldc2_w 242, 3) := by decide +kernel
theorem dX11_doDeed_61 : decode cX11_doDeed 61 = .ok (.lsub, 1) := by decide +kernel
theorem dX11_doDeed_62 : decode cX11_doDeed 62 = .ok (.l2i, 1) := by decide +kernel
theorem dX11_doDeed_63 : decode cX11_doDeed 63 = .ok (.putfield 134, 3) := by decide +kernel
theorem dX11_doDeed_66 : decode cX11_doDeed 66 = .ok (.iconst 1, 1) := by decide +kernel
theorem dX11_doDeed_67 : decode cX11_doDeed 67 = .ok (.ireturn, 1) := by decide +kernel
theorem dX11_doDeed_68 : decode cX11_doDeed 68 = .ok (.lload_n 2, 1) := by decide +kernel
theorem dX11_doDeed_69 : decode cX11_doDeed 69 = .ok (.ldc2_w 246, 3) := by decide +kernel
theorem dX11_doDeed_72 : decode cX11_doDeed 72 = .ok (.lcmp, 1) := by decide +kernel
theorem dX11_doDeed_73 : decode cX11_doDeed 73 = .ok (.ifCond .lt 32, 3) := by decide +kernel
theorem dX11_doDeed_76 : decode cX11_doDeed 76 = .ok (.lload_n 2, 1) := by decide +kernel
theorem dX11_doDeed_77 : decode cX11_doDeed 77 = .ok (.ldc2_w 248, 3) := by decide +kernel
theorem dX11_doDeed_80 : decode cX11_doDeed 80 = .ok (.lcmp, 1) := by decide +kernel
theorem dX11_doDeed_81 : decode cX11_doDeed 81 = .ok (.ifCond .ge 24, 3) := by decide +kernel
theorem dX11_doDeed_84 : decode cX11_doDeed 84 = .ok (.aload_n 0, 1) := by decide +kernel
theorem dX11_doDeed_85 : decode cX11_doDeed 85 = .ok (.aload_n 1, 1) := by decide +kernel
theorem dX11_doDeed_86 : decode cX11_doDeed 86 = .ok (.lload_n 2, 1) := by decide +kernel
theorem dX11_doDeed_87 : decode cX11_doDeed 87 = .ok (.ldc2_w 246, 3) := by decide +kernel
theorem dX11_doDeed_90 : decode cX11_doDeed 90 = .ok (.lsub, 1) := by decide +kernel
theorem dX11_doDeed_91 : decode cX11_doDeed 91 = .ok (.l2i, 1) := by decide +kernel
theorem dX11_doDeed_92 : decode cX11_doDeed 92 = .ok (.bipush 10, 2) := by decide +kernel
theorem dX11_doDeed_94 : decode cX11_doDeed 94 = .ok (.idiv, 1) := by decide +kernel
theorem dX11_doDeed_95 : decode cX11_doDeed 95 = .ok (.lload_n 2, 1) := by decide +kernel
theorem dX11_doDeed_96 : decode cX11_doDeed 96 = .ok (.ldc2_w 242, 3) := by decide +kernel
theorem dX11_doDeed_99 : decode cX11_doDeed 99 = .ok (.lrem, 1) := by decide +kernel
theorem dX11_doDeed_100 : decode cX11_doDeed 100 = .ok (.l2i, 1) := by decide +kernel
theorem dX11_doDeed_101 : decode cX11_doDeed 101 = .ok (.invokevirtual 250, 3) := by decide +kernel
theorem dX11_doDeed_104 : decode cX11_doDeed 104 = .ok (.ireturn, 1) := by decide +kernel
theorem dX11_doDeed_105 : decode cX11_doDeed 105 = .ok (.iconst 0, 1) := by decide +kernel
theorem dX11_doDeed_106 : decode cX11_doDeed 106 = .ok (.ireturn, 1) := by decide +kernel
theorem dX11_doSwap_0 : decode cX11_doSwap 0 = .ok (.aload_n 0, 1) := by decide +kernel
theorem dX11_doSwap_1 : decode cX11_doSwap 1 = .ok (.iload_n 2, 1) := by decide +kernel
theorem dX11_doSwap_2 : decode cX11_doSwap 2 = .ok (.iload_n 3, 1) := by decide +kernel
theorem dX11_doSwap_3 : decode cX11_doSwap 3 = .ok (.invokevirtual 191, 3) := by decide +kernel
theorem dX11_doSwap_6 : decode cX11_doSwap 6 = .ok (.ifCond .ne 5, 3) := by decide +kernel
theorem dX11_doSwap_9 : decode cX11_doSwap 9 = .ok (.iconst 0, 1) := by decide +kernel
theorem dX11_doSwap_10 : decode cX11_doSwap 10 = .ok (.ireturn, 1) := by decide +kernel
theorem dX11_doSwap_11 : decode cX11_doSwap 11 = .ok (.aload_n 1, 1) := by decide +kernel
theorem dX11_doSwap_12 : decode cX11_doSwap 12 = .ok (.aload_n 0, 1) := by decide +kernel
theorem dX11_doSwap_13 : decode cX11_doSwap 13 = .ok (.getfield 62, 3) := by decide +kernel
theorem dX11_doSwap_16 : decode cX11_doSwap 16 = .ok (.aload_n 1, 1) := by decide +kernel
theorem dX11_doSwap_17 : decode cX11_doSwap 17 = .ok (.getfield 128, 3) := by decide +kernel
theorem dX11_doSwap_20 : decode cX11_doSwap 20 = .ok (.iload_n 2, 1) := by decide +kernel
theorem dX11_doSwap_21 : decode cX11_doSwap 21 = .ok (.iload_n 3, 1) := by decide +kernel
theorem dX11_doSwap_22 : decode cX11_doSwap 22 = .ok (.invokevirtual 198, 3) := by decide +kernel
theorem dX11_doSwap_25 : decode cX11_doSwap 25 = .ok (.putfield 128, 3) := by decide +kernel
theorem dX11_doSwap_28 : decode cX11_doSwap 28 = .ok (.iconst 1, 1) := by decide +kernel
theorem dX11_doSwap_29 : decode cX11_doSwap 29 = .ok (.ireturn, 1) := by decide +kernel
theorem dX11_perform_0 : decode cX11_perform 0 = .ok (.iload_n 1, 1) := by decide +kernel
theorem dX11_perform_1 : decode cX11_perform 1 = .ok (.iconst 4, 1) := by decide +kernel
theorem dX11_perform_2 : decode cX11_perform 2 = .ok (.invokestatic 157, 3) := by decide +kernel
theorem dX11_perform_5 : decode cX11_perform 5 = .ok (.ifCond .ne 6, 3) := by decide +kernel
theorem dX11_perform_8 : decode cX11_perform 8 = .ok (.bipush (-2), 2) := by decide +kernel
theorem dX11_perform_10 : decode cX11_perform 10 = .ok (.ireturn, 1) := by decide +kernel
theorem dX11_perform_11 : decode cX11_perform 11 = .ok (.aload_n 0, 1) := by decide +kernel
theorem dX11_perform_12 : decode cX11_perform 12 = .ok (.getfield 49, 3) := by decide +kernel
theorem dX11_perform_15 : decode cX11_perform 15 = .ok (.iload_n 1, 1) := by decide +kernel
theorem dX11_perform_16 : decode cX11_perform 16 = .ok (.aaload, 1) := by decide +kernel
theorem dX11_perform_17 : decode cX11_perform 17 = .ok (.astore_n 2, 1) := by decide +kernel
theorem dX11_perform_18 : decode cX11_perform 18 = .ok (.aload_n 2, 1) := by decide +kernel
theorem dX11_perform_19 : decode cX11_perform 19 = .ok (.invokevirtual 223, 3) := by decide +kernel
theorem dX11_perform_22 : decode cX11_perform 22 = .ok (.ifCond .eq 6, 3) := by decide +kernel
theorem dX11_perform_25 : decode cX11_perform 25 = .ok (.bipush (-6), 2) := by decide +kernel
theorem dX11_perform_27 : decode cX11_perform 27 = .ok (.ireturn, 1) := by decide +kernel
theorem dX11_perform_28 : decode cX11_perform 28 = .ok (.aload_n 0, 1) := by decide +kernel
theorem dX11_perform_29 : decode cX11_perform 29 = .ok (.getfield 31, 3) := by decide +kernel
theorem dX11_perform_32 : decode cX11_perform 32 = .ok (.aload_n 0, 1) := by decide +kernel
theorem dX11_perform_33 : decode cX11_perform 33 = .ok (.getfield 27, 3) := by decide +kernel
theorem dX11_perform_36 : decode cX11_perform 36 = .ok (.invokevirtual 217, 3) := by decide +kernel
theorem dX11_perform_39 : decode cX11_perform 39 = .ok (.aload_n 0, 1) := by decide +kernel
theorem dX11_perform_40 : decode cX11_perform 40 = .ok (.aload_n 0, 1) := by decide +kernel
theorem dX11_perform_41 : decode cX11_perform 41 = .ok (.getfield 27, 3) := by decide +kernel
theorem dX11_perform_44 : decode cX11_perform 44 = .ok (.aload_n 2, 1) := by decide +kernel
theorem dX11_perform_45 : decode cX11_perform 45 = .ok (.invokevirtual 227, 3) := by decide +kernel
theorem dX11_perform_48 : decode cX11_perform 48 = .ok (.istore_n 3, 1) := by decide +kernel
theorem dX11_perform_49 : decode cX11_perform 49 = .ok (.iload_n 3, 1) := by decide +kernel
theorem dX11_perform_50 : decode cX11_perform 50 = .ok (.ifCond .le 11, 3) := by decide +kernel
theorem dX11_perform_53 : decode cX11_perform 53 = .ok (.aload_n 0, 1) := by decide +kernel
theorem dX11_perform_54 : decode cX11_perform 54 = .ok (.aload_n 0, 1) := by decide +kernel
theorem dX11_perform_55 : decode cX11_perform 55 = .ok (.getfield 31, 3) := by decide +kernel
theorem dX11_perform_58 : decode cX11_perform 58 = .ok (.invokevirtual 194, 3) := by decide +kernel
theorem dX11_perform_61 : decode cX11_perform 61 = .ok (.iload_n 3, 1) := by decide +kernel
theorem dX11_perform_62 : decode cX11_perform 62 = .ok (.ireturn, 1) := by decide +kernel
theorem dX11_year_0 : decode cX11_year 0 = .ok (.iload_n 2, 1) := by decide +kernel
theorem dX11_year_1 : decode cX11_year 1 = .ok (.iconst 1, 1) := by decide +kernel
theorem dX11_year_2 : decode cX11_year 2 = .ok (.if_icmp .lt 9, 3) := by decide +kernel
theorem dX11_year_5 : decode cX11_year 5 = .ok (.iload_n 2, 1) := by decide +kernel
theorem dX11_year_6 : decode cX11_year 6 = .ok (.bipush 40, 2) := by decide +kernel
theorem dX11_year_8 : decode cX11_year 8 = .ok (.if_icmp .le 6, 3) := by decide +kernel
theorem dX11_year_11 : decode cX11_year 11 = .ok (.bipush (-3), 2) := by decide +kernel
theorem dX11_year_13 : decode cX11_year 13 = .ok (.ireturn, 1) := by decide +kernel
theorem dX11_year_14 : decode cX11_year 14 = .ok (.aload_n 0, 1) := by decide +kernel
theorem dX11_year_15 : decode cX11_year 15 = .ok (.getfield 31, 3) := by decide +kernel
theorem dX11_year_18 : decode cX11_year 18 = .ok (.aload_n 0, 1) := by decide +kernel
theorem dX11_year_19 : decode cX11_year 19 = .ok (.getfield 27, 3) := by decide +kernel
theorem dX11_year_22 : decode cX11_year 22 = .ok (.invokevirtual 217, 3) := by decide +kernel
theorem dX11_year_25 : decode cX11_year 25 = .ok (.aload_n 0, 1) := by decide +kernel
theorem dX11_year_26 : decode cX11_year 26 = .ok (.iload_n 1, 1) := by decide +kernel
theorem dX11_year_27 : decode cX11_year 27 = .ok (.putfield 44, 3) := by decide +kernel
theorem dX11_year_30 : decode cX11_year 30 = .ok (.iconst 0, 1) := by decide +kernel
theorem dX11_year_31 : decode cX11_year 31 = .ok (.istore_n 3, 1) := by decide +kernel
theorem dX11_year_32 : decode cX11_year 32 = .ok (.iconst 0, 1) := by decide +kernel
theorem dX11_year_33 : decode cX11_year 33 = .ok (.istore 4, 2) := by decide +kernel
theorem dX11_year_35 : decode cX11_year 35 = .ok (.iload 4, 2) := by decide +kernel
theorem dX11_year_37 : decode cX11_year 37 = .ok (.iload_n 2, 1) := by decide +kernel
theorem dX11_year_38 : decode cX11_year 38 = .ok (.if_icmp .ge 28, 3) := by decide +kernel
theorem dX11_year_41 : decode cX11_year 41 = .ok (.aload_n 0, 1) := by decide +kernel
theorem dX11_year_42 : decode cX11_year 42 = .ok (.aload_n 0, 1) := by decide +kernel
theorem dX11_year_43 : decode cX11_year 43 = .ok (.getfield 27, 3) := by decide +kernel
theorem dX11_year_46 : decode cX11_year 46 = .ok (.aload_n 0, 1) := by decide +kernel
theorem dX11_year_47 : decode cX11_year 47 = .ok (.invokevirtual 254, 3) := by decide +kernel
theorem dX11_year_50 : decode cX11_year 50 = .ok (.i2l, 1) := by decide +kernel
theorem dX11_year_51 : decode cX11_year 51 = .ok (.invokevirtual 238, 3) := by decide +kernel
theorem dX11_year_54 : decode cX11_year 54 = .ok (.ifCond .eq 6, 3) := by decide +kernel
theorem dX11_year_57 : decode cX11_year 57 = .ok (.iinc 3 1, 3) := by decide +kernel
theorem dX11_year_60 : decode cX11_year 60 = .ok (.iinc 4 1, 3) := by decide +kernel
theorem dX11_year_63 : decode cX11_year 63 = .ok (.goto (-28), 3) := by decide +kernel
theorem dX11_year_66 : decode cX11_year 66 = .ok (.iload_n 3, 1) := by decide +kernel
theorem dX11_year_67 : decode cX11_year 67 = .ok (.ifCond .le 11, 3) := by decide +kernel
theorem dX11_year_70 : decode cX11_year 70 = .ok (.aload_n 0, 1) := by decide +kernel
theorem dX11_year_71 : decode cX11_year 71 = .ok (.aload_n 0, 1) := by decide +kernel
theorem dX11_year_72 : decode cX11_year 72 = .ok (.getfield 31, 3) := by decide +kernel
theorem dX11_year_75 : decode cX11_year 75 = .ok (.invokevirtual 194, 3) := by decide +kernel
theorem dX11_year_78 : decode cX11_year 78 = .ok (.iload_n 3, 1) := by decide +kernel
theorem dX11_year_79 : decode cX11_year 79 = .ok (.ireturn, 1) := by decide +kernel
theorem dX11_drawDeed_0 : decode cX11_drawDeed 0 = .ok (.aload_n 0, 1) := by decide +kernel
theorem dX11_drawDeed_1 : decode cX11_drawDeed 1 = .ok (.invokevirtual 257, 3) := by decide +kernel
theorem dX11_drawDeed_4 : decode cX11_drawDeed 4 = .ok (.iconst 4, 1) := by decide +kernel
theorem dX11_drawDeed_5 : decode cX11_drawDeed 5 = .ok (.irem, 1) := by decide +kernel
theorem dX11_drawDeed_6 : decode cX11_drawDeed 6 = .ok (.istore_n 1, 1) := by decide +kernel
theorem dX11_drawDeed_7 : decode cX11_drawDeed 7 = .ok (.iload_n 1, 1) := by decide +kernel
theorem dX11_drawDeed_8 : decode cX11_drawDeed 8 = .ok (.iconst 2, 1) := by decide +kernel
theorem dX11_drawDeed_9 : decode cX11_drawDeed 9 = .ok (.if_icmp .ge 5, 3) := by decide +kernel
theorem dX11_drawDeed_12 : decode cX11_drawDeed 12 = .ok (.iconst 0, 1) := by decide +kernel
theorem dX11_drawDeed_13 : decode cX11_drawDeed 13 = .ok (.ireturn, 1) := by decide +kernel
theorem dX11_drawDeed_14 : decode cX11_drawDeed 14 = .ok (.iload_n 1, 1) := by decide +kernel
theorem dX11_drawDeed_15 : decode cX11_drawDeed 15 = .ok (.iconst 2, 1) := by decide +kernel
theorem dX11_drawDeed_16 : decode cX11_drawDeed 16 = .ok (.if_icmp .ne 14, 3) := by decide +kernel
theorem dX11_drawDeed_19 : decode cX11_drawDeed 19 = .ok (.bipush 10, 2) := by decide +kernel
theorem dX11_drawDeed_21 : decode cX11_drawDeed 21 = .ok (.aload_n 0, 1) := by decide +kernel
theorem dX11_drawDeed_22 : decode cX11_drawDeed 22 = .ok (.invokevirtual 257, 3) := by decide +kernel
theorem dX11_drawDeed_25 : decode cX11_drawDeed 25 = .ok (.bipush 10, 2) := by decide +kernel
theorem dX11_drawDeed_27 : decode cX11_drawDeed 27 = .ok (.irem, 1) := by decide +kernel
theorem dX11_drawDeed_28 : decode cX11_drawDeed 28 = .ok (.iadd, 1) := by decide +kernel
theorem dX11_drawDeed_29 : decode cX11_drawDeed 29 = .ok (.ireturn, 1) := by decide +kernel
theorem dX11_drawDeed_30 : decode cX11_drawDeed 30 = .ok (.aload_n 0, 1) := by decide +kernel
theorem dX11_drawDeed_31 : decode cX11_drawDeed 31 = .ok (.invokevirtual 257, 3) := by decide +kernel
theorem dX11_drawDeed_34 : decode cX11_drawDeed 34 = .ok (.bipush 6, 2) := by decide +kernel
theorem dX11_drawDeed_36 : decode cX11_drawDeed 36 = .ok (.irem, 1) := by decide +kernel
theorem dX11_drawDeed_37 : decode cX11_drawDeed 37 = .ok (.istore_n 2, 1) := by decide +kernel
theorem dX11_drawDeed_38 : decode cX11_drawDeed 38 = .ok (.aload_n 0, 1) := by decide +kernel
theorem dX11_drawDeed_39 : decode cX11_drawDeed 39 = .ok (.invokevirtual 257, 3) := by decide +kernel
theorem dX11_drawDeed_42 : decode cX11_drawDeed 42 = .ok (.bipush 6, 2) := by decide +kernel
theorem dX11_drawDeed_44 : decode cX11_drawDeed 44 = .ok (.irem, 1) := by decide +kernel
theorem dX11_drawDeed_45 : decode cX11_drawDeed 45 = .ok (.istore_n 3, 1) := by decide +kernel
theorem dX11_drawDeed_46 : decode cX11_drawDeed 46 = .ok (.bipush 100, 2) := by decide +kernel
theorem dX11_drawDeed_48 : decode cX11_drawDeed 48 = .ok (.bipush 10, 2) := by decide +kernel
theorem dX11_drawDeed_50 : decode cX11_drawDeed 50 = .ok (.iload_n 2, 1) := by decide +kernel
theorem dX11_drawDeed_51 : decode cX11_drawDeed 51 = .ok (.imul, 1) := by decide +kernel
theorem dX11_drawDeed_52 : decode cX11_drawDeed 52 = .ok (.iadd, 1) := by decide +kernel
theorem dX11_drawDeed_53 : decode cX11_drawDeed 53 = .ok (.iload_n 3, 1) := by decide +kernel
theorem dX11_drawDeed_54 : decode cX11_drawDeed 54 = .ok (.iadd, 1) := by decide +kernel
theorem dX11_drawDeed_55 : decode cX11_drawDeed 55 = .ok (.ireturn, 1) := by decide +kernel
theorem dX11_draw_0 : decode cX11_draw 0 = .ok (.aload_n 0, 1) := by decide +kernel
theorem dX11_draw_1 : decode cX11_draw 1 = .ok (.ldc_w 260, 3) := by decide +kernel
theorem dX11_draw_4 : decode cX11_draw 4 = .ok (.aload_n 0, 1) := by decide +kernel
theorem dX11_draw_5 : decode cX11_draw 5 = .ok (.getfield 44, 3) := by decide +kernel
theorem dX11_draw_8 : decode cX11_draw 8 = .ok (.imul, 1) := by decide +kernel
theorem dX11_draw_9 : decode cX11_draw 9 = .ok (.sipush 12345, 3) := by decide +kernel
theorem dX11_draw_12 : decode cX11_draw 12 = .ok (.iadd, 1) := by decide +kernel
theorem dX11_draw_13 : decode cX11_draw 13 = .ok (.putfield 44, 3) := by decide +kernel
theorem dX11_draw_16 : decode cX11_draw 16 = .ok (.aload_n 0, 1) := by decide +kernel
theorem dX11_draw_17 : decode cX11_draw 17 = .ok (.getfield 44, 3) := by decide +kernel
theorem dX11_draw_20 : decode cX11_draw 20 = .ok (.bipush 16, 2) := by decide +kernel
theorem dX11_draw_22 : decode cX11_draw 22 = .ok (.iushr, 1) := by decide +kernel
theorem dX11_draw_23 : decode cX11_draw 23 = .ok (.ireturn, 1) := by decide +kernel
theorem dX11_lies_0 : decode cX11_lies 0 = .ok (.iload_n 1, 1) := by decide +kernel
theorem dX11_lies_1 : decode cX11_lies 1 = .ok (.tableswitch 122 0 5 #[39, 47, 62, 77, 92, 107], 39) := by decide +kernel
theorem dX11_lies_40 : decode cX11_lies 40 = .ok (.aload_n 0, 1) := by decide +kernel
theorem dX11_lies_41 : decode cX11_lies 41 = .ok (.getfield 27, 3) := by decide +kernel
theorem dX11_lies_44 : decode cX11_lies 44 = .ok (.getfield 128, 3) := by decide +kernel
theorem dX11_lies_47 : decode cX11_lies 47 = .ok (.ireturn, 1) := by decide +kernel
theorem dX11_lies_48 : decode cX11_lies 48 = .ok (.aload_n 0, 1) := by decide +kernel
theorem dX11_lies_49 : decode cX11_lies 49 = .ok (.getfield 62, 3) := by decide +kernel
theorem dX11_lies_52 : decode cX11_lies 52 = .ok (.aload_n 0, 1) := by decide +kernel
theorem dX11_lies_53 : decode cX11_lies 53 = .ok (.getfield 27, 3) := by decide +kernel
theorem dX11_lies_56 : decode cX11_lies 56 = .ok (.getfield 128, 3) := by decide +kernel
theorem dX11_lies_59 : decode cX11_lies 59 = .ok (.invokevirtual 261, 3) := by decide +kernel
theorem dX11_lies_62 : decode cX11_lies 62 = .ok (.ireturn, 1) := by decide +kernel
theorem dX11_lies_63 : decode cX11_lies 63 = .ok (.aload_n 0, 1) := by decide +kernel
theorem dX11_lies_64 : decode cX11_lies 64 = .ok (.getfield 62, 3) := by decide +kernel
theorem dX11_lies_67 : decode cX11_lies 67 = .ok (.aload_n 0, 1) := by decide +kernel
theorem dX11_lies_68 : decode cX11_lies 68 = .ok (.getfield 27, 3) := by decide +kernel
theorem dX11_lies_71 : decode cX11_lies 71 = .ok (.getfield 128, 3) := by decide +kernel
theorem dX11_lies_74 : decode cX11_lies 74 = .ok (.invokevirtual 264, 3) := by decide +kernel
theorem dX11_lies_77 : decode cX11_lies 77 = .ok (.ireturn, 1) := by decide +kernel
theorem dX11_lies_78 : decode cX11_lies 78 = .ok (.aload_n 0, 1) := by decide +kernel
theorem dX11_lies_79 : decode cX11_lies 79 = .ok (.getfield 62, 3) := by decide +kernel
theorem dX11_lies_82 : decode cX11_lies 82 = .ok (.aload_n 0, 1) := by decide +kernel
theorem dX11_lies_83 : decode cX11_lies 83 = .ok (.getfield 27, 3) := by decide +kernel
theorem dX11_lies_86 : decode cX11_lies 86 = .ok (.getfield 128, 3) := by decide +kernel
theorem dX11_lies_89 : decode cX11_lies 89 = .ok (.invokevirtual 267, 3) := by decide +kernel
theorem dX11_lies_92 : decode cX11_lies 92 = .ok (.ireturn, 1) := by decide +kernel
theorem dX11_lies_93 : decode cX11_lies 93 = .ok (.aload_n 0, 1) := by decide +kernel
theorem dX11_lies_94 : decode cX11_lies 94 = .ok (.getfield 62, 3) := by decide +kernel
theorem dX11_lies_97 : decode cX11_lies 97 = .ok (.aload_n 0, 1) := by decide +kernel
theorem dX11_lies_98 : decode cX11_lies 98 = .ok (.getfield 27, 3) := by decide +kernel
theorem dX11_lies_101 : decode cX11_lies 101 = .ok (.getfield 128, 3) := by decide +kernel
theorem dX11_lies_104 : decode cX11_lies 104 = .ok (.invokevirtual 270, 3) := by decide +kernel
theorem dX11_lies_107 : decode cX11_lies 107 = .ok (.ireturn, 1) := by decide +kernel
theorem dX11_lies_108 : decode cX11_lies 108 = .ok (.aload_n 0, 1) := by decide +kernel
theorem dX11_lies_109 : decode cX11_lies 109 = .ok (.getfield 62, 3) := by decide +kernel
theorem dX11_lies_112 : decode cX11_lies 112 = .ok (.aload_n 0, 1) := by decide +kernel
theorem dX11_lies_113 : decode cX11_lies 113 = .ok (.getfield 27, 3) := by decide +kernel
theorem dX11_lies_116 : decode cX11_lies 116 = .ok (.getfield 128, 3) := by decide +kernel
theorem dX11_lies_119 : decode cX11_lies 119 = .ok (.invokevirtual 273, 3) := by decide +kernel
theorem dX11_lies_122 : decode cX11_lies 122 = .ok (.ireturn, 1) := by decide +kernel
theorem dX11_lies_123 : decode cX11_lies 123 = .ok (.bipush (-2), 2) := by decide +kernel
theorem dX11_lies_125 : decode cX11_lies 125 = .ok (.ireturn, 1) := by decide +kernel
theorem dX11_round_0 : decode cX11_round 0 = .ok (.aload_n 0, 1) := by decide +kernel
theorem dX11_round_1 : decode cX11_round 1 = .ok (.iload_n 1, 1) := by decide +kernel
theorem dX11_round_2 : decode cX11_round 2 = .ok (.invokevirtual 153, 3) := by decide +kernel
theorem dX11_round_5 : decode cX11_round 5 = .ok (.ifCond .eq 11, 3) := by decide +kernel
theorem dX11_round_8 : decode cX11_round 8 = .ok (.iload_n 2, 1) := by decide +kernel
theorem dX11_round_9 : decode cX11_round 9 = .ok (.iconst 2, 1) := by decide +kernel
theorem dX11_round_10 : decode cX11_round 10 = .ok (.invokestatic 157, 3) := by decide +kernel
theorem dX11_round_13 : decode cX11_round 13 = .ok (.ifCond .ne 6, 3) := by decide +kernel
theorem dX11_round_16 : decode cX11_round 16 = .ok (.bipush (-2), 2) := by decide +kernel
theorem dX11_round_18 : decode cX11_round 18 = .ok (.ireturn, 1) := by decide +kernel
theorem dX11_round_19 : decode cX11_round 19 = .ok (.aload_n 0, 1) := by decide +kernel
theorem dX11_round_20 : decode cX11_round 20 = .ok (.getfield 62, 3) := by decide +kernel
theorem dX11_round_23 : decode cX11_round 23 = .ok (.aload_n 0, 1) := by decide +kernel
theorem dX11_round_24 : decode cX11_round 24 = .ok (.getfield 27, 3) := by decide +kernel
theorem dX11_round_27 : decode cX11_round 27 = .ok (.getfield 128, 3) := by decide +kernel
theorem dX11_round_30 : decode cX11_round 30 = .ok (.iload_n 1, 1) := by decide +kernel
theorem dX11_round_31 : decode cX11_round 31 = .ok (.invokevirtual 276, 3) := by decide +kernel
theorem dX11_round_34 : decode cX11_round 34 = .ok (.istore_n 3, 1) := by decide +kernel
theorem dX11_round_35 : decode cX11_round 35 = .ok (.iload_n 2, 1) := by decide +kernel
theorem dX11_round_36 : decode cX11_round 36 = .ok (.ifCond .ne 10, 3) := by decide +kernel
theorem dX11_round_39 : decode cX11_round 39 = .ok (.iload_n 3, 1) := by decide +kernel
theorem dX11_round_40 : decode cX11_round 40 = .ok (.invokestatic 186, 3) := by decide +kernel
theorem dX11_round_43 : decode cX11_round 43 = .ok (.goto 4, 3) := by decide +kernel
theorem dX11_round_46 : decode cX11_round 46 = .ok (.iload_n 3, 1) := by decide +kernel
theorem dX11_round_47 : decode cX11_round 47 = .ok (.ireturn, 1) := by decide +kernel
theorem dX11_power_0 : decode cX11_power 0 = .ok (.lload_n 1, 1) := by decide +kernel
theorem dX11_power_1 : decode cX11_power 1 = .ok (.lconst 0, 1) := by decide +kernel
theorem dX11_power_2 : decode cX11_power 2 = .ok (.lcmp, 1) := by decide +kernel
theorem dX11_power_3 : decode cX11_power 3 = .ok (.ifCond .lt 11, 3) := by decide +kernel
theorem dX11_power_6 : decode cX11_power 6 = .ok (.lload_n 1, 1) := by decide +kernel
theorem dX11_power_7 : decode cX11_power 7 = .ok (.ldc2_w 279, 3) := by decide +kernel
theorem dX11_power_10 : decode cX11_power 10 = .ok (.lcmp, 1) := by decide +kernel
theorem dX11_power_11 : decode cX11_power 11 = .ok (.ifCond .le 6, 3) := by decide +kernel
theorem dX11_power_14 : decode cX11_power 14 = .ok (.bipush (-3), 2) := by decide +kernel
theorem dX11_power_16 : decode cX11_power 16 = .ok (.ireturn, 1) := by decide +kernel
theorem dX11_power_17 : decode cX11_power 17 = .ok (.aload_n 0, 1) := by decide +kernel
theorem dX11_power_18 : decode cX11_power 18 = .ok (.getfield 62, 3) := by decide +kernel
theorem dX11_power_21 : decode cX11_power 21 = .ok (.aload_n 0, 1) := by decide +kernel
theorem dX11_power_22 : decode cX11_power 22 = .ok (.getfield 27, 3) := by decide +kernel
theorem dX11_power_25 : decode cX11_power 25 = .ok (.getfield 128, 3) := by decide +kernel
theorem dX11_power_28 : decode cX11_power 28 = .ok (.lload_n 1, 1) := by decide +kernel
theorem dX11_power_29 : decode cX11_power 29 = .ok (.invokevirtual 210, 3) := by decide +kernel
theorem dX11_power_32 : decode cX11_power 32 = .ok (.ireturn, 1) := by decide +kernel
theorem dX11_roots_0 : decode cX11_roots 0 = .ok (.iload_n 1, 1) := by decide +kernel
theorem dX11_roots_1 : decode cX11_roots 1 = .ok (.iconst 1, 1) := by decide +kernel
theorem dX11_roots_2 : decode cX11_roots 2 = .ok (.if_icmp .lt 9, 3) := by decide +kernel
theorem dX11_roots_5 : decode cX11_roots 5 = .ok (.iload_n 1, 1) := by decide +kernel
theorem dX11_roots_6 : decode cX11_roots 6 = .ok (.bipush 9, 2) := by decide +kernel
theorem dX11_roots_8 : decode cX11_roots 8 = .ok (.if_icmp .le 6, 3) := by decide +kernel
theorem dX11_roots_11 : decode cX11_roots 11 = .ok (.bipush (-3), 2) := by decide +kernel
theorem dX11_roots_13 : decode cX11_roots 13 = .ok (.ireturn, 1) := by decide +kernel
theorem dX11_roots_14 : decode cX11_roots 14 = .ok (.iconst 0, 1) := by decide +kernel
theorem dX11_roots_15 : decode cX11_roots 15 = .ok (.istore_n 2, 1) := by decide +kernel
theorem dX11_roots_16 : decode cX11_roots 16 = .ok (.iconst 0, 1) := by decide +kernel
theorem dX11_roots_17 : decode cX11_roots 17 = .ok (.istore_n 3, 1) := by decide +kernel
theorem dX11_roots_18 : decode cX11_roots 18 = .ok (.iload_n 3, 1) := by decide +kernel
theorem dX11_roots_19 : decode cX11_roots 19 = .ok (.aload_n 0, 1) := by decide +kernel
theorem dX11_roots_20 : decode cX11_roots 20 = .ok (.getfield 62, 3) := by decide +kernel
theorem dX11_roots_23 : decode cX11_roots 23 = .ok (.getfield 281, 3) := by decide +kernel
theorem dX11_roots_26 : decode cX11_roots 26 = .ok (.if_icmp .ge 31, 3) := by decide +kernel
theorem dX11_roots_29 : decode cX11_roots 29 = .ok (.aload_n 0, 1) := by decide +kernel
theorem dX11_roots_30 : decode cX11_roots 30 = .ok (.getfield 62, 3) := by decide +kernel
theorem dX11_roots_33 : decode cX11_roots 33 = .ok (.iload_n 3, 1) := by decide +kernel
theorem dX11_roots_34 : decode cX11_roots 34 = .ok (.iload_n 1, 1) := by decide +kernel
theorem dX11_roots_35 : decode cX11_roots 35 = .ok (.aload_n 0, 1) := by decide +kernel
theorem dX11_roots_36 : decode cX11_roots 36 = .ok (.getfield 27, 3) := by decide +kernel
theorem dX11_roots_39 : decode cX11_roots 39 = .ok (.getfield 128, 3) := by decide +kernel
theorem dX11_roots_42 : decode cX11_roots 42 = .ok (.invokevirtual 284, 3) := by decide +kernel
theorem dX11_roots_45 : decode cX11_roots 45 = .ok (.ifCond .eq 6, 3) := by decide +kernel
theorem dX11_roots_48 : decode cX11_roots 48 = .ok (.iinc 2 1, 3) := by decide +kernel
theorem dX11_roots_51 : decode cX11_roots 51 = .ok (.iinc 3 1, 3) := by decide +kernel
theorem dX11_roots_54 : decode cX11_roots 54 = .ok (.goto (-36), 3) := by decide +kernel
theorem dX11_roots_57 : decode cX11_roots 57 = .ok (.iload_n 2, 1) := by decide +kernel
theorem dX11_roots_58 : decode cX11_roots 58 = .ok (.ireturn, 1) := by decide +kernel
theorem dX11_bounded_0 : decode cX11_bounded 0 = .ok (.iload_n 1, 1) := by decide +kernel
theorem dX11_bounded_1 : decode cX11_bounded 1 = .ok (.iconst 1, 1) := by decide +kernel
theorem dX11_bounded_2 : decode cX11_bounded 2 = .ok (.if_icmp .lt 20, 3) := by decide +kernel
theorem dX11_bounded_5 : decode cX11_bounded 5 = .ok (.iload_n 1, 1) := by decide +kernel
theorem dX11_bounded_6 : decode cX11_bounded 6 = .ok (.bipush 20, 2) := by decide +kernel
theorem dX11_bounded_8 : decode cX11_bounded 8 = .ok (.if_icmp .gt 14, 3) := by decide +kernel
theorem dX11_bounded_11 : decode cX11_bounded 11 = .ok (.iload_n 2, 1) := by decide +kernel
theorem dX11_bounded_12 : decode cX11_bounded 12 = .ok (.iconst 1, 1) := by decide +kernel
theorem dX11_bounded_13 : decode cX11_bounded 13 = .ok (.if_icmp .lt 9, 3) := by decide +kernel
theorem dX11_bounded_16 : decode cX11_bounded 16 = .ok (.iload_n 2, 1) := by decide +kernel
theorem dX11_bounded_17 : decode cX11_bounded 17 = .ok (.bipush 20, 2) := by decide +kernel
theorem dX11_bounded_19 : decode cX11_bounded 19 = .ok (.if_icmp .le 7, 3) := by decide +kernel
theorem dX11_bounded_22 : decode cX11_bounded 22 = .ok (.ldc2_w 288, 3) := by decide +kernel
theorem dX11_bounded_25 : decode cX11_bounded 25 = .ok (.lreturn, 1) := by decide +kernel
theorem dX11_bounded_26 : decode cX11_bounded 26 = .ok (.aload_n 0, 1) := by decide +kernel
theorem dX11_bounded_27 : decode cX11_bounded 27 = .ok (.getfield 95, 3) := by decide +kernel
theorem dX11_bounded_30 : decode cX11_bounded 30 = .ok (.iconst 0, 1) := by decide +kernel
theorem dX11_bounded_31 : decode cX11_bounded 31 = .ok (.lconst 1, 1) := by decide +kernel
theorem dX11_bounded_32 : decode cX11_bounded 32 = .ok (.lastore, 1) := by decide +kernel
theorem dX11_bounded_33 : decode cX11_bounded 33 = .ok (.iconst 1, 1) := by decide +kernel
theorem dX11_bounded_34 : decode cX11_bounded 34 = .ok (.istore_n 3, 1) := by decide +kernel
theorem dX11_bounded_35 : decode cX11_bounded 35 = .ok (.iload_n 3, 1) := by decide +kernel
theorem dX11_bounded_36 : decode cX11_bounded 36 = .ok (.iload_n 1, 1) := by decide +kernel
theorem dX11_bounded_37 : decode cX11_bounded 37 = .ok (.if_icmp .gt 21, 3) := by decide +kernel
theorem dX11_bounded_40 : decode cX11_bounded 40 = .ok (.aload_n 0, 1) := by decide +kernel
theorem dX11_bounded_41 : decode cX11_bounded 41 = .ok (.getfield 95, 3) := by decide +kernel
theorem dX11_bounded_44 : decode cX11_bounded 44 = .ok (.iload_n 3, 1) := by decide +kernel
theorem dX11_bounded_45 : decode cX11_bounded 45 = .ok (.aload_n 0, 1) := by decide +kernel
theorem dX11_bounded_46 : decode cX11_bounded 46 = .ok (.iload_n 3, 1) := by decide +kernel
theorem dX11_bounded_47 : decode cX11_bounded 47 = .ok (.iload_n 2, 1) := by decide +kernel
theorem dX11_bounded_48 : decode cX11_bounded 48 = .ok (.invokevirtual 290, 3) := by decide +kernel
theorem dX11_bounded_51 : decode cX11_bounded 51 = .ok (.lastore, 1) := by decide +kernel
theorem dX11_bounded_52 : decode cX11_bounded 52 = .ok (.iinc 3 1, 3) := by decide +kernel
theorem dX11_bounded_55 : decode cX11_bounded 55 = .ok (.goto (-20), 3) := by decide +kernel
theorem dX11_bounded_58 : decode cX11_bounded 58 = .ok (.aload_n 0, 1) := by decide +kernel
theorem dX11_bounded_59 : decode cX11_bounded 59 = .ok (.getfield 95, 3) := by decide +kernel
theorem dX11_bounded_62 : decode cX11_bounded 62 = .ok (.iload_n 1, 1) := by decide +kernel
theorem dX11_bounded_63 : decode cX11_bounded 63 = .ok (.laload, 1) := by decide +kernel
theorem dX11_bounded_64 : decode cX11_bounded 64 = .ok (.lreturn, 1) := by decide +kernel
theorem dX11_boundedBy_0 : decode cX11_boundedBy 0 = .ok (.lconst 0, 1) := by decide +kernel
theorem dX11_boundedBy_1 : decode cX11_boundedBy 1 = .ok (.lstore_n 3, 1) := by decide +kernel
theorem dX11_boundedBy_2 : decode cX11_boundedBy 2 = .ok (.lconst 1, 1) := by decide +kernel
theorem dX11_boundedBy_3 : decode cX11_boundedBy 3 = .ok (.lstore 5, 2) := by decide +kernel
theorem dX11_boundedBy_5 : decode cX11_boundedBy 5 = .ok (.iconst 1, 1) := by decide +kernel
theorem dX11_boundedBy_6 : decode cX11_boundedBy 6 = .ok (.istore 7, 2) := by decide +kernel
theorem dX11_boundedBy_8 : decode cX11_boundedBy 8 = .ok (.iload 7, 2) := by decide +kernel
theorem dX11_boundedBy_10 : decode cX11_boundedBy 10 = .ok (.iload_n 1, 1) := by decide +kernel
theorem dX11_boundedBy_11 : decode cX11_boundedBy 11 = .ok (.if_icmp .gt 40, 3) := by decide +kernel
theorem dX11_boundedBy_14 : decode cX11_boundedBy 14 = .ok (.iload 7, 2) := by decide +kernel
theorem dX11_boundedBy_16 : decode cX11_boundedBy 16 = .ok (.iload_n 2, 1) := by decide +kernel
theorem dX11_boundedBy_17 : decode cX11_boundedBy 17 = .ok (.if_icmp .gt 34, 3) := by decide +kernel
theorem dX11_boundedBy_20 : decode cX11_boundedBy 20 = .ok (.lload_n 3, 1) := by decide +kernel
theorem dX11_boundedBy_21 : decode cX11_boundedBy 21 = .ok (.lload 5, 2) := by decide +kernel
theorem dX11_boundedBy_23 : decode cX11_boundedBy 23 = .ok (.aload_n 0, 1) := by decide +kernel
theorem dX11_boundedBy_24 : decode cX11_boundedBy 24 = .ok (.getfield 95, 3) := by decide +kernel
theorem dX11_boundedBy_27 : decode cX11_boundedBy 27 = .ok (.iload_n 1, 1) := by decide +kernel
theorem dX11_boundedBy_28 : decode cX11_boundedBy 28 = .ok (.iload 7, 2) := by decide +kernel
theorem dX11_boundedBy_30 : decode cX11_boundedBy 30 = .ok (.isub, 1) := by decide +kernel
theorem dX11_boundedBy_31 : decode cX11_boundedBy 31 = .ok (.laload, 1) := by decide +kernel
theorem dX11_boundedBy_32 : decode cX11_boundedBy 32 = .ok (.lmul, 1) := by decide +kernel
theorem dX11_boundedBy_33 : decode cX11_boundedBy 33 = .ok (.ladd, 1) := by decide +kernel
theorem dX11_boundedBy_34 : decode cX11_boundedBy 34 = .ok (.lstore_n 3, 1) := by decide +kernel
theorem dX11_boundedBy_35 : decode cX11_boundedBy 35 = .ok (.lload 5, 2) := by decide +kernel
theorem dX11_boundedBy_37 : decode cX11_boundedBy 37 = .ok (.iload_n 1, 1) := by decide +kernel
theorem dX11_boundedBy_38 : decode cX11_boundedBy 38 = .ok (.iload 7, 2) := by decide +kernel
theorem dX11_boundedBy_40 : decode cX11_boundedBy 40 = .ok (.isub, 1) := by decide +kernel
theorem dX11_boundedBy_41 : decode cX11_boundedBy 41 = .ok (.i2l, 1) := by decide +kernel
theorem dX11_boundedBy_42 : decode cX11_boundedBy 42 = .ok (.lmul, 1) := by decide +kernel
theorem dX11_boundedBy_43 : decode cX11_boundedBy 43 = .ok (.lstore 5, 2) := by decide +kernel
theorem dX11_boundedBy_45 : decode cX11_boundedBy 45 = .ok (.iinc 7 1, 3) := by decide +kernel
theorem dX11_boundedBy_48 : decode cX11_boundedBy 48 = .ok (.goto (-40), 3) := by decide +kernel
theorem dX11_boundedBy_51 : decode cX11_boundedBy 51 = .ok (.lload_n 3, 1) := by decide +kernel
theorem dX11_boundedBy_52 : decode cX11_boundedBy 52 = .ok (.lreturn, 1) := by decide +kernel
theorem dX11_isAim_0 : decode cX11_isAim 0 = .ok (.iload_n 0, 1) := by decide +kernel
theorem dX11_isAim_1 : decode cX11_isAim 1 = .ok (.ifCond .eq 8, 3) := by decide +kernel
theorem dX11_isAim_4 : decode cX11_isAim 4 = .ok (.iload_n 0, 1) := by decide +kernel
theorem dX11_isAim_5 : decode cX11_isAim 5 = .ok (.iconst 1, 1) := by decide +kernel
theorem dX11_isAim_6 : decode cX11_isAim 6 = .ok (.if_icmp .ne 7, 3) := by decide +kernel
theorem dX11_isAim_9 : decode cX11_isAim 9 = .ok (.iconst 1, 1) := by decide +kernel
theorem dX11_isAim_10 : decode cX11_isAim 10 = .ok (.goto 4, 3) := by decide +kernel
theorem dX11_isAim_13 : decode cX11_isAim 13 = .ok (.iconst 0, 1) := by decide +kernel
theorem dX11_isAim_14 : decode cX11_isAim 14 = .ok (.ireturn, 1) := by decide +kernel
theorem dX11_fewest_0 : decode cX11_fewest 0 = .ok (.iload_n 1, 1) := by decide +kernel
theorem dX11_fewest_1 : decode cX11_fewest 1 = .ok (.invokestatic 294, 3) := by decide +kernel
theorem dX11_fewest_4 : decode cX11_fewest 4 = .ok (.ifCond .ne 6, 3) := by decide +kernel
theorem dX11_fewest_7 : decode cX11_fewest 7 = .ok (.bipush (-2), 2) := by decide +kernel
theorem dX11_fewest_9 : decode cX11_fewest 9 = .ok (.ireturn, 1) := by decide +kernel
theorem dX11_fewest_10 : decode cX11_fewest 10 = .ok (.aload_n 0, 1) := by decide +kernel
theorem dX11_fewest_11 : decode cX11_fewest 11 = .ok (.getfield 80, 3) := by decide +kernel
theorem dX11_fewest_14 : decode cX11_fewest 14 = .ok (.iload_n 1, 1) := by decide +kernel
theorem dX11_fewest_15 : decode cX11_fewest 15 = .ok (.aload_n 0, 1) := by decide +kernel
theorem dX11_fewest_16 : decode cX11_fewest 16 = .ok (.getfield 27, 3) := by decide +kernel
theorem dX11_fewest_19 : decode cX11_fewest 19 = .ok (.getfield 134, 3) := by decide +kernel
theorem dX11_fewest_22 : decode cX11_fewest 22 = .ok (.invokevirtual 297, 3) := by decide +kernel
theorem dX11_fewest_25 : decode cX11_fewest 25 = .ok (.aload_n 0, 1) := by decide +kernel
theorem dX11_fewest_26 : decode cX11_fewest 26 = .ok (.getfield 80, 3) := by decide +kernel
theorem dX11_fewest_29 : decode cX11_fewest 29 = .ok (.aload_n 0, 1) := by decide +kernel
theorem dX11_fewest_30 : decode cX11_fewest 30 = .ok (.getfield 27, 3) := by decide +kernel
theorem dX11_fewest_33 : decode cX11_fewest 33 = .ok (.getfield 128, 3) := by decide +kernel
theorem dX11_fewest_36 : decode cX11_fewest 36 = .ok (.invokevirtual 301, 3) := by decide +kernel
theorem dX11_fewest_39 : decode cX11_fewest 39 = .ok (.ireturn, 1) := by decide +kernel
theorem dX11_way_0 : decode cX11_way 0 = .ok (.iload_n 1, 1) := by decide +kernel
theorem dX11_way_1 : decode cX11_way 1 = .ok (.invokestatic 294, 3) := by decide +kernel
theorem dX11_way_4 : decode cX11_way 4 = .ok (.ifCond .ne 6, 3) := by decide +kernel
theorem dX11_way_7 : decode cX11_way 7 = .ok (.bipush (-2), 2) := by decide +kernel
theorem dX11_way_9 : decode cX11_way 9 = .ok (.ireturn, 1) := by decide +kernel
theorem dX11_way_10 : decode cX11_way 10 = .ok (.iload_n 2, 1) := by decide +kernel
theorem dX11_way_11 : decode cX11_way 11 = .ok (.ifCond .ge 6, 3) := by decide +kernel
theorem dX11_way_14 : decode cX11_way 14 = .ok (.bipush (-3), 2) := by decide +kernel
theorem dX11_way_16 : decode cX11_way 16 = .ok (.ireturn, 1) := by decide +kernel
theorem dX11_way_17 : decode cX11_way 17 = .ok (.aload_n 0, 1) := by decide +kernel
theorem dX11_way_18 : decode cX11_way 18 = .ok (.getfield 80, 3) := by decide +kernel
theorem dX11_way_21 : decode cX11_way 21 = .ok (.iload_n 1, 1) := by decide +kernel
theorem dX11_way_22 : decode cX11_way 22 = .ok (.aload_n 0, 1) := by decide +kernel
theorem dX11_way_23 : decode cX11_way 23 = .ok (.getfield 27, 3) := by decide +kernel
theorem dX11_way_26 : decode cX11_way 26 = .ok (.getfield 134, 3) := by decide +kernel
theorem dX11_way_29 : decode cX11_way 29 = .ok (.invokevirtual 297, 3) := by decide +kernel
theorem dX11_way_32 : decode cX11_way 32 = .ok (.iload_n 2, 1) := by decide +kernel
theorem dX11_way_33 : decode cX11_way 33 = .ok (.aload_n 0, 1) := by decide +kernel
theorem dX11_way_34 : decode cX11_way 34 = .ok (.getfield 80, 3) := by decide +kernel
theorem dX11_way_37 : decode cX11_way 37 = .ok (.aload_n 0, 1) := by decide +kernel
theorem dX11_way_38 : decode cX11_way 38 = .ok (.getfield 27, 3) := by decide +kernel
theorem dX11_way_41 : decode cX11_way 41 = .ok (.getfield 128, 3) := by decide +kernel
theorem dX11_way_44 : decode cX11_way 44 = .ok (.invokevirtual 301, 3) := by decide +kernel
theorem dX11_way_47 : decode cX11_way 47 = .ok (.if_icmp .lt 5, 3) := by decide +kernel
theorem dX11_way_50 : decode cX11_way 50 = .ok (.iconst (-1), 1) := by decide +kernel
theorem dX11_way_51 : decode cX11_way 51 = .ok (.ireturn, 1) := by decide +kernel
theorem dX11_way_52 : decode cX11_way 52 = .ok (.aload_n 0, 1) := by decide +kernel
theorem dX11_way_53 : decode cX11_way 53 = .ok (.getfield 27, 3) := by decide +kernel
theorem dX11_way_56 : decode cX11_way 56 = .ok (.getfield 128, 3) := by decide +kernel
theorem dX11_way_59 : decode cX11_way 59 = .ok (.istore_n 3, 1) := by decide +kernel
theorem dX11_way_60 : decode cX11_way 60 = .ok (.iconst 0, 1) := by decide +kernel
theorem dX11_way_61 : decode cX11_way 61 = .ok (.istore 4, 2) := by decide +kernel
theorem dX11_way_63 : decode cX11_way 63 = .ok (.iload 4, 2) := by decide +kernel
theorem dX11_way_65 : decode cX11_way 65 = .ok (.iload_n 2, 1) := by decide +kernel
theorem dX11_way_66 : decode cX11_way 66 = .ok (.if_icmp .ge 26, 3) := by decide +kernel
theorem dX11_way_69 : decode cX11_way 69 = .ok (.aload_n 0, 1) := by decide +kernel
theorem dX11_way_70 : decode cX11_way 70 = .ok (.getfield 62, 3) := by decide +kernel
theorem dX11_way_73 : decode cX11_way 73 = .ok (.iload_n 3, 1) := by decide +kernel
theorem dX11_way_74 : decode cX11_way 74 = .ok (.aload_n 0, 1) := by decide +kernel
theorem dX11_way_75 : decode cX11_way 75 = .ok (.getfield 80, 3) := by decide +kernel
theorem dX11_way_78 : decode cX11_way 78 = .ok (.iload_n 3, 1) := by decide +kernel
theorem dX11_way_79 : decode cX11_way 79 = .ok (.invokevirtual 304, 3) := by decide +kernel
theorem dX11_way_82 : decode cX11_way 82 = .ok (.invokevirtual 307, 3) := by decide +kernel
theorem dX11_way_85 : decode cX11_way 85 = .ok (.istore_n 3, 1) := by decide +kernel
theorem dX11_way_86 : decode cX11_way 86 = .ok (.iinc 4 1, 3) := by decide +kernel
theorem dX11_way_89 : decode cX11_way 89 = .ok (.goto (-26), 3) := by decide +kernel
theorem dX11_way_92 : decode cX11_way 92 = .ok (.aload_n 0, 1) := by decide +kernel
theorem dX11_way_93 : decode cX11_way 93 = .ok (.getfield 62, 3) := by decide +kernel
theorem dX11_way_96 : decode cX11_way 96 = .ok (.aload_n 0, 1) := by decide +kernel
theorem dX11_way_97 : decode cX11_way 97 = .ok (.getfield 80, 3) := by decide +kernel
theorem dX11_way_100 : decode cX11_way 100 = .ok (.iload_n 3, 1) := by decide +kernel
theorem dX11_way_101 : decode cX11_way 101 = .ok (.invokevirtual 304, 3) := by decide +kernel
theorem dX11_way_104 : decode cX11_way 104 = .ok (.invokevirtual 310, 3) := by decide +kernel
theorem dX11_way_107 : decode cX11_way 107 = .ok (.ireturn, 1) := by decide +kernel
theorem dX11_rows_0 : decode cX11_rows 0 = .ok (.iload_n 1, 1) := by decide +kernel
theorem dX11_rows_1 : decode cX11_rows 1 = .ok (.invokestatic 294, 3) := by decide +kernel
theorem dX11_rows_4 : decode cX11_rows 4 = .ok (.ifCond .ne 7, 3) := by decide +kernel
theorem dX11_rows_7 : decode cX11_rows 7 = .ok (.ldc2_w 313, 3) := by decide +kernel
theorem dX11_rows_10 : decode cX11_rows 10 = .ok (.lreturn, 1) := by decide +kernel
theorem dX11_rows_11 : decode cX11_rows 11 = .ok (.iload_n 2, 1) := by decide +kernel
theorem dX11_rows_12 : decode cX11_rows 12 = .ok (.ifCond .lt 9, 3) := by decide +kernel
theorem dX11_rows_15 : decode cX11_rows 15 = .ok (.iload_n 2, 1) := by decide +kernel
theorem dX11_rows_16 : decode cX11_rows 16 = .ok (.bipush 7, 2) := by decide +kernel
theorem dX11_rows_18 : decode cX11_rows 18 = .ok (.if_icmp .le 7, 3) := by decide +kernel
theorem dX11_rows_21 : decode cX11_rows 21 = .ok (.ldc2_w 288, 3) := by decide +kernel
theorem dX11_rows_24 : decode cX11_rows 24 = .ok (.lreturn, 1) := by decide +kernel
theorem dX11_rows_25 : decode cX11_rows 25 = .ok (.aload_n 0, 1) := by decide +kernel
theorem dX11_rows_26 : decode cX11_rows 26 = .ok (.getfield 87, 3) := by decide +kernel
theorem dX11_rows_29 : decode cX11_rows 29 = .ok (.aload_n 0, 1) := by decide +kernel
theorem dX11_rows_30 : decode cX11_rows 30 = .ok (.getfield 27, 3) := by decide +kernel
theorem dX11_rows_33 : decode cX11_rows 33 = .ok (.getfield 128, 3) := by decide +kernel
theorem dX11_rows_36 : decode cX11_rows 36 = .ok (.invokevirtual 315, 3) := by decide +kernel
theorem dX11_rows_39 : decode cX11_rows 39 = .ok (.iconst 0, 1) := by decide +kernel
theorem dX11_rows_40 : decode cX11_rows 40 = .ok (.istore_n 3, 1) := by decide +kernel
theorem dX11_rows_41 : decode cX11_rows 41 = .ok (.iload_n 3, 1) := by decide +kernel
theorem dX11_rows_42 : decode cX11_rows 42 = .ok (.iload_n 2, 1) := by decide +kernel
theorem dX11_rows_43 : decode cX11_rows 43 = .ok (.if_icmp .ge 16, 3) := by decide +kernel
theorem dX11_rows_46 : decode cX11_rows 46 = .ok (.aload_n 0, 1) := by decide +kernel
theorem dX11_rows_47 : decode cX11_rows 47 = .ok (.getfield 87, 3) := by decide +kernel
theorem dX11_rows_50 : decode cX11_rows 50 = .ok (.invokevirtual 318, 3) := by decide +kernel
theorem dX11_rows_53 : decode cX11_rows 53 = .ok (.iinc 3 1, 3) := by decide +kernel
theorem dX11_rows_56 : decode cX11_rows 56 = .ok (.goto (-15), 3) := by decide +kernel
theorem dX11_rows_59 : decode cX11_rows 59 = .ok (.aload_n 0, 1) := by decide +kernel
theorem dX11_rows_60 : decode cX11_rows 60 = .ok (.iload_n 1, 1) := by decide +kernel
theorem dX11_rows_61 : decode cX11_rows 61 = .ok (.invokevirtual 321, 3) := by decide +kernel
theorem dX11_rows_64 : decode cX11_rows 64 = .ok (.lreturn, 1) := by decide +kernel
theorem dX11_weightOf_0 : decode cX11_weightOf 0 = .ok (.aload_n 0, 1) := by decide +kernel
theorem dX11_weightOf_1 : decode cX11_weightOf 1 = .ok (.getfield 71, 3) := by decide +kernel
theorem dX11_weightOf_4 : decode cX11_weightOf 4 = .ok (.iload_n 1, 1) := by decide +kernel
theorem dX11_weightOf_5 : decode cX11_weightOf 5 = .ok (.invokevirtual 324, 3) := by decide +kernel
theorem dX11_weightOf_8 : decode cX11_weightOf 8 = .ok (.istore_n 2, 1) := by decide +kernel
