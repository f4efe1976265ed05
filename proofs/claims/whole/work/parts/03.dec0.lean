theorem dX0_startingAt_0 : decode cX0_startingAt 0 = .ok (.aload_n 0, 1) := by decide +kernel
theorem dX0_startingAt_1 : decode cX0_startingAt 1 = .ok (.iload_n 2, 1) := by decide +kernel
theorem dX0_startingAt_2 : decode cX0_startingAt 2 = .ok (.invokevirtual 9, 3) := by decide +kernel
theorem dX0_startingAt_5 : decode cX0_startingAt 5 = .ok (.istore 6, 2) := by decide +kernel
theorem dX0_startingAt_7 : decode cX0_startingAt 7 = .ok (.iload 6, 2) := by decide +kernel
theorem dX0_startingAt_9 : decode cX0_startingAt 9 = .ok (.iload 4, 2) := by decide +kernel
theorem dX0_startingAt_11 : decode cX0_startingAt 11 = .ok (.iconst 1, 1) := by decide +kernel
theorem dX0_startingAt_12 : decode cX0_startingAt 12 = .ok (.if_icmp .ne 10, 3) := by decide +kernel
theorem dX0_startingAt_15 : decode cX0_startingAt 15 = .ok (.iload 5, 2) := by decide +kernel
theorem dX0_startingAt_17 : decode cX0_startingAt 17 = .ok (.iconst 1, 1) := by decide +kernel
theorem dX0_startingAt_18 : decode cX0_startingAt 18 = .ok (.iadd, 1) := by decide +kernel
theorem dX0_startingAt_19 : decode cX0_startingAt 19 = .ok (.goto 11, 3) := by decide +kernel
theorem dX0_startingAt_22 : decode cX0_startingAt 22 = .ok (.aload_n 0, 1) := by decide +kernel
theorem dX0_startingAt_23 : decode cX0_startingAt 23 = .ok (.iload_n 1, 1) := by decide +kernel
theorem dX0_startingAt_24 : decode cX0_startingAt 24 = .ok (.invokevirtual 9, 3) := by decide +kernel
theorem dX0_startingAt_27 : decode cX0_startingAt 27 = .ok (.iload 5, 2) := by decide +kernel
theorem dX0_startingAt_29 : decode cX0_startingAt 29 = .ok (.isub, 1) := by decide +kernel
theorem dX0_startingAt_30 : decode cX0_startingAt 30 = .ok (.if_icmp .le 5, 3) := by decide +kernel
theorem dX0_startingAt_33 : decode cX0_startingAt 33 = .ok (.iconst (-1), 1) := by decide +kernel
theorem dX0_startingAt_34 : decode cX0_startingAt 34 = .ok (.ireturn, 1) := by decide +kernel
theorem dX0_startingAt_35 : decode cX0_startingAt 35 = .ok (.iload 4, 2) := by decide +kernel
theorem dX0_startingAt_37 : decode cX0_startingAt 37 = .ok (.iconst 1, 1) := by decide +kernel
theorem dX0_startingAt_38 : decode cX0_startingAt 38 = .ok (.if_icmp .ne 7, 3) := by decide +kernel
theorem dX0_startingAt_41 : decode cX0_startingAt 41 = .ok (.iconst (-1), 1) := by decide +kernel
theorem dX0_startingAt_42 : decode cX0_startingAt 42 = .ok (.goto 4, 3) := by decide +kernel
theorem dX0_startingAt_45 : decode cX0_startingAt 45 = .ok (.iconst 1, 1) := by decide +kernel
theorem dX0_startingAt_46 : decode cX0_startingAt 46 = .ok (.istore 7, 2) := by decide +kernel
theorem dX0_startingAt_48 : decode cX0_startingAt 48 = .ok (.iconst 0, 1) := by decide +kernel
theorem dX0_startingAt_49 : decode cX0_startingAt 49 = .ok (.istore 8, 2) := by decide +kernel
theorem dX0_startingAt_51 : decode cX0_startingAt 51 = .ok (.iconst 0, 1) := by decide +kernel
theorem dX0_startingAt_52 : decode cX0_startingAt 52 = .ok (.istore 9, 2) := by decide +kernel
theorem dX0_startingAt_54 : decode cX0_startingAt 54 = .ok (.iconst 1, 1) := by decide +kernel
theorem dX0_startingAt_55 : decode cX0_startingAt 55 = .ok (.istore 10, 2) := by decide +kernel
theorem dX0_startingAt_57 : decode cX0_startingAt 57 = .ok (.iload 10, 2) := by decide +kernel
theorem dX0_startingAt_59 : decode cX0_startingAt 59 = .ok (.iload 6, 2) := by decide +kernel
theorem dX0_startingAt_61 : decode cX0_startingAt 61 = .ok (.if_icmp .ge 156, 3) := by decide +kernel
theorem dX0_startingAt_64 : decode cX0_startingAt 64 = .ok (.aload_n 0, 1) := by decide +kernel
theorem dX0_startingAt_65 : decode cX0_startingAt 65 = .ok (.iload_n 1, 1) := by decide +kernel
theorem dX0_startingAt_66 : decode cX0_startingAt 66 = .ok (.iload 5, 2) := by decide +kernel
theorem dX0_startingAt_68 : decode cX0_startingAt 68 = .ok (.iload 7, 2) := by decide +kernel
theorem dX0_startingAt_70 : decode cX0_startingAt 70 = .ok (.iload 10, 2) := by decide +kernel
theorem dX0_startingAt_72 : decode cX0_startingAt 72 = .ok (.imul, 1) := by decide +kernel
theorem dX0_startingAt_73 : decode cX0_startingAt 73 = .ok (.iadd, 1) := by decide +kernel
theorem dX0_startingAt_74 : decode cX0_startingAt 74 = .ok (.invokevirtual 15, 3) := by decide +kernel
theorem dX0_startingAt_77 : decode cX0_startingAt 77 = .ok (.aload_n 0, 1) := by decide +kernel
theorem dX0_startingAt_78 : decode cX0_startingAt 78 = .ok (.iload_n 1, 1) := by decide +kernel
theorem dX0_startingAt_79 : decode cX0_startingAt 79 = .ok (.iload 5, 2) := by decide +kernel
theorem dX0_startingAt_81 : decode cX0_startingAt 81 = .ok (.invokevirtual 15, 3) := by decide +kernel
theorem dX0_startingAt_84 : decode cX0_startingAt 84 = .ok (.isub, 1) := by decide +kernel
theorem dX0_startingAt_85 : decode cX0_startingAt 85 = .ok (.istore 11, 2) := by decide +kernel
theorem dX0_startingAt_87 : decode cX0_startingAt 87 = .ok (.aload_n 0, 1) := by decide +kernel
theorem dX0_startingAt_88 : decode cX0_startingAt 88 = .ok (.iload_n 2, 1) := by decide +kernel
theorem dX0_startingAt_89 : decode cX0_startingAt 89 = .ok (.iload 10, 2) := by decide +kernel
theorem dX0_startingAt_91 : decode cX0_startingAt 91 = .ok (.invokevirtual 15, 3) := by decide +kernel
theorem dX0_startingAt_94 : decode cX0_startingAt 94 = .ok (.aload_n 0, 1) := by decide +kernel
theorem dX0_startingAt_95 : decode cX0_startingAt 95 = .ok (.iload_n 2, 1) := by decide +kernel
theorem dX0_startingAt_96 : decode cX0_startingAt 96 = .ok (.iconst 0, 1) := by decide +kernel
theorem dX0_startingAt_97 : decode cX0_startingAt 97 = .ok (.invokevirtual 15, 3) := by decide +kernel
theorem dX0_startingAt_100 : decode cX0_startingAt 100 = .ok (.isub, 1) := by decide +kernel
theorem dX0_startingAt_101 : decode cX0_startingAt 101 = .ok (.istore 12, 2) := by decide +kernel
theorem dX0_startingAt_103 : decode cX0_startingAt 103 = .ok (.iload 11, 2) := by decide +kernel
theorem dX0_startingAt_105 : decode cX0_startingAt 105 = .ok (.ifCond .ne 7, 3) := by decide +kernel
theorem dX0_startingAt_108 : decode cX0_startingAt 108 = .ok (.iconst 1, 1) := by decide +kernel
theorem dX0_startingAt_109 : decode cX0_startingAt 109 = .ok (.goto 4, 3) := by decide +kernel
theorem dX0_startingAt_112 : decode cX0_startingAt 112 = .ok (.iconst 0, 1) := by decide +kernel
theorem dX0_startingAt_113 : decode cX0_startingAt 113 = .ok (.iload 12, 2) := by decide +kernel
theorem dX0_startingAt_115 : decode cX0_startingAt 115 = .ok (.ifCond .ne 7, 3) := by decide +kernel
theorem dX0_startingAt_118 : decode cX0_startingAt 118 = .ok (.iconst 1, 1) := by decide +kernel
theorem dX0_startingAt_119 : decode cX0_startingAt 119 = .ok (.goto 4, 3) := by decide +kernel
theorem dX0_startingAt_122 : decode cX0_startingAt 122 = .ok (.iconst 0, 1) := by decide +kernel
theorem dX0_startingAt_123 : decode cX0_startingAt 123 = .ok (.if_icmp .eq 5, 3) := by decide +kernel
theorem dX0_startingAt_126 : decode cX0_startingAt 126 = .ok (.iconst (-1), 1) := by decide +kernel
theorem dX0_startingAt_127 : decode cX0_startingAt 127 = .ok (.ireturn, 1) := by decide +kernel
theorem dX0_startingAt_128 : decode cX0_startingAt 128 = .ok (.iload 9, 2) := by decide +kernel
theorem dX0_startingAt_130 : decode cX0_startingAt 130 = .ok (.ifCond .ne 51, 3) := by decide +kernel
theorem dX0_startingAt_133 : decode cX0_startingAt 133 = .ok (.iload 11, 2) := by decide +kernel
theorem dX0_startingAt_135 : decode cX0_startingAt 135 = .ok (.ifCond .eq 46, 3) := by decide +kernel
theorem dX0_startingAt_138 : decode cX0_startingAt 138 = .ok (.iload 11, 2) := by decide +kernel
theorem dX0_startingAt_140 : decode cX0_startingAt 140 = .ok (.invokestatic 19, 3) := by decide +kernel
theorem dX0_startingAt_143 : decode cX0_startingAt 143 = .ok (.iload 12, 2) := by decide +kernel
theorem dX0_startingAt_145 : decode cX0_startingAt 145 = .ok (.invokestatic 19, 3) := by decide +kernel
theorem dX0_startingAt_148 : decode cX0_startingAt 148 = .ok (.invokestatic 24, 3) := by decide +kernel
theorem dX0_startingAt_151 : decode cX0_startingAt 151 = .ok (.istore 13, 2) := by decide +kernel
theorem dX0_startingAt_153 : decode cX0_startingAt 153 = .ok (.iload 11, 2) := by decide +kernel
theorem dX0_startingAt_155 : decode cX0_startingAt 155 = .ok (.ifCond .le 8, 3) := by decide +kernel
theorem dX0_startingAt_158 : decode cX0_startingAt 158 = .ok (.iload 12, 2) := by decide +kernel
theorem dX0_startingAt_160 : decode cX0_startingAt 160 = .ok (.goto 6, 3) := by decide +kernel
theorem dX0_startingAt_163 : decode cX0_startingAt 163 = .ok (.iload 12, 2) := by decide +kernel
theorem dX0_startingAt_165 : decode cX0_startingAt 165 = .ok (.ineg, 1) := by decide +kernel
theorem dX0_startingAt_166 : decode cX0_startingAt 166 = .ok (.iload 13, 2) := by decide +kernel
theorem dX0_startingAt_168 : decode cX0_startingAt 168 = .ok (.idiv, 1) := by decide +kernel
theorem dX0_startingAt_169 : decode cX0_startingAt 169 = .ok (.istore 8, 2) := by decide +kernel
theorem dX0_startingAt_171 : decode cX0_startingAt 171 = .ok (.iload 11, 2) := by decide +kernel
theorem dX0_startingAt_173 : decode cX0_startingAt 173 = .ok (.invokestatic 19, 3) := by decide +kernel
theorem dX0_startingAt_176 : decode cX0_startingAt 176 = .ok (.iload 13, 2) := by decide +kernel
theorem dX0_startingAt_178 : decode cX0_startingAt 178 = .ok (.idiv, 1) := by decide +kernel
theorem dX0_startingAt_179 : decode cX0_startingAt 179 = .ok (.istore 9, 2) := by decide +kernel
theorem dX0_startingAt_181 : decode cX0_startingAt 181 = .ok (.iload 8, 2) := by decide +kernel
theorem dX0_startingAt_183 : decode cX0_startingAt 183 = .ok (.invokestatic 19, 3) := by decide +kernel
theorem dX0_startingAt_186 : decode cX0_startingAt 186 = .ok (.iload_n 3, 1) := by decide +kernel
theorem dX0_startingAt_187 : decode cX0_startingAt 187 = .ok (.if_icmp .gt 22, 3) := by decide +kernel
theorem dX0_startingAt_190 : decode cX0_startingAt 190 = .ok (.iload 9, 2) := by decide +kernel
theorem dX0_startingAt_192 : decode cX0_startingAt 192 = .ok (.iload_n 3, 1) := by decide +kernel
theorem dX0_startingAt_193 : decode cX0_startingAt 193 = .ok (.if_icmp .gt 16, 3) := by decide +kernel
theorem dX0_startingAt_196 : decode cX0_startingAt 196 = .ok (.iload 9, 2) := by decide +kernel
theorem dX0_startingAt_198 : decode cX0_startingAt 198 = .ok (.iload 12, 2) := by decide +kernel
theorem dX0_startingAt_200 : decode cX0_startingAt 200 = .ok (.imul, 1) := by decide +kernel
theorem dX0_startingAt_201 : decode cX0_startingAt 201 = .ok (.iload 8, 2) := by decide +kernel
theorem dX0_startingAt_203 : decode cX0_startingAt 203 = .ok (.iload 11, 2) := by decide +kernel
theorem dX0_startingAt_205 : decode cX0_startingAt 205 = .ok (.imul, 1) := by decide +kernel
theorem dX0_startingAt_206 : decode cX0_startingAt 206 = .ok (.if_icmp .eq 5, 3) := by decide +kernel
theorem dX0_startingAt_209 : decode cX0_startingAt 209 = .ok (.iconst (-1), 1) := by decide +kernel
theorem dX0_startingAt_210 : decode cX0_startingAt 210 = .ok (.ireturn, 1) := by decide +kernel
theorem dX0_startingAt_211 : decode cX0_startingAt 211 = .ok (.iinc 10 1, 3) := by decide +kernel
theorem dX0_startingAt_214 : decode cX0_startingAt 214 = .ok (.goto (-157), 3) := by decide +kernel
theorem dX0_startingAt_217 : decode cX0_startingAt 217 = .ok (.iload 8, 2) := by decide +kernel
theorem dX0_startingAt_219 : decode cX0_startingAt 219 = .ok (.ifCond .ge 7, 3) := by decide +kernel
theorem dX0_startingAt_222 : decode cX0_startingAt 222 = .ok (.iconst 1, 1) := by decide +kernel
theorem dX0_startingAt_223 : decode cX0_startingAt 223 = .ok (.goto 4, 3) := by decide +kernel
theorem dX0_startingAt_226 : decode cX0_startingAt 226 = .ok (.iconst 0, 1) := by decide +kernel
theorem dX0_startingAt_227 : decode cX0_startingAt 227 = .ok (.istore 10, 2) := by decide +kernel
theorem dX0_startingAt_229 : decode cX0_startingAt 229 = .ok (.iload 4, 2) := by decide +kernel
theorem dX0_startingAt_231 : decode cX0_startingAt 231 = .ok (.iconst 2, 1) := by decide +kernel
theorem dX0_startingAt_232 : decode cX0_startingAt 232 = .ok (.imul, 1) := by decide +kernel
theorem dX0_startingAt_233 : decode cX0_startingAt 233 = .ok (.iload 10, 2) := by decide +kernel
theorem dX0_startingAt_235 : decode cX0_startingAt 235 = .ok (.iadd, 1) := by decide +kernel
theorem dX0_startingAt_236 : decode cX0_startingAt 236 = .ok (.bipush 6, 2) := by decide +kernel
theorem dX0_startingAt_238 : decode cX0_startingAt 238 = .ok (.imul, 1) := by decide +kernel
theorem dX0_startingAt_239 : decode cX0_startingAt 239 = .ok (.iload 8, 2) := by decide +kernel
theorem dX0_startingAt_241 : decode cX0_startingAt 241 = .ok (.invokestatic 19, 3) := by decide +kernel
theorem dX0_startingAt_244 : decode cX0_startingAt 244 = .ok (.iadd, 1) := by decide +kernel
theorem dX0_startingAt_245 : decode cX0_startingAt 245 = .ok (.bipush 6, 2) := by decide +kernel
theorem dX0_startingAt_247 : decode cX0_startingAt 247 = .ok (.imul, 1) := by decide +kernel
theorem dX0_startingAt_248 : decode cX0_startingAt 248 = .ok (.iload 9, 2) := by decide +kernel
theorem dX0_startingAt_250 : decode cX0_startingAt 250 = .ok (.iadd, 1) := by decide +kernel
theorem dX0_startingAt_251 : decode cX0_startingAt 251 = .ok (.istore 11, 2) := by decide +kernel
theorem dX0_startingAt_253 : decode cX0_startingAt 253 = .ok (.iload 9, 2) := by decide +kernel
theorem dX0_startingAt_255 : decode cX0_startingAt 255 = .ok (.ifCond .ne 7, 3) := by decide +kernel
theorem dX0_startingAt_258 : decode cX0_startingAt 258 = .ok (.iconst (-1), 1) := by decide +kernel
theorem dX0_startingAt_259 : decode cX0_startingAt 259 = .ok (.goto 11, 3) := by decide +kernel
theorem dX0_startingAt_262 : decode cX0_startingAt 262 = .ok (.iload 11, 2) := by decide +kernel
theorem dX0_startingAt_264 : decode cX0_startingAt 264 = .ok (.bipush 24, 2) := by decide +kernel
theorem dX0_startingAt_266 : decode cX0_startingAt 266 = .ok (.imul, 1) := by decide +kernel
theorem dX0_startingAt_267 : decode cX0_startingAt 267 = .ok (.iload 5, 2) := by decide +kernel
theorem dX0_startingAt_269 : decode cX0_startingAt 269 = .ok (.iadd, 1) := by decide +kernel
theorem dX0_startingAt_270 : decode cX0_startingAt 270 = .ok (.ireturn, 1) := by decide +kernel
theorem dX0_divisorOfBoth_0 : decode cX0_divisorOfBoth 0 = .ok (.iconst 1, 1) := by decide +kernel
theorem dX0_divisorOfBoth_1 : decode cX0_divisorOfBoth 1 = .ok (.iload_n 0, 1) := by decide +kernel
theorem dX0_divisorOfBoth_2 : decode cX0_divisorOfBoth 2 = .ok (.invokestatic 29, 3) := by decide +kernel
theorem dX0_divisorOfBoth_5 : decode cX0_divisorOfBoth 5 = .ok (.istore_n 2, 1) := by decide +kernel
theorem dX0_divisorOfBoth_6 : decode cX0_divisorOfBoth 6 = .ok (.iload_n 1, 1) := by decide +kernel
theorem dX0_divisorOfBoth_7 : decode cX0_divisorOfBoth 7 = .ok (.istore_n 3, 1) := by decide +kernel
theorem dX0_divisorOfBoth_8 : decode cX0_divisorOfBoth 8 = .ok (.iconst 0, 1) := by decide +kernel
theorem dX0_divisorOfBoth_9 : decode cX0_divisorOfBoth 9 = .ok (.istore 4, 2) := by decide +kernel
theorem dX0_divisorOfBoth_11 : decode cX0_divisorOfBoth 11 = .ok (.iload 4, 2) := by decide +kernel
theorem dX0_divisorOfBoth_13 : decode cX0_divisorOfBoth 13 = .ok (.bipush 64, 2) := by decide +kernel
theorem dX0_divisorOfBoth_15 : decode cX0_divisorOfBoth 15 = .ok (.if_icmp .ge 23, 3) := by decide +kernel
theorem dX0_divisorOfBoth_18 : decode cX0_divisorOfBoth 18 = .ok (.iload_n 3, 1) := by decide +kernel
theorem dX0_divisorOfBoth_19 : decode cX0_divisorOfBoth 19 = .ok (.ifCond .le 19, 3) := by decide +kernel
theorem dX0_divisorOfBoth_22 : decode cX0_divisorOfBoth 22 = .ok (.iload_n 2, 1) := by decide +kernel
theorem dX0_divisorOfBoth_23 : decode cX0_divisorOfBoth 23 = .ok (.iload_n 3, 1) := by decide +kernel
theorem dX0_divisorOfBoth_24 : decode cX0_divisorOfBoth 24 = .ok (.irem, 1) := by decide +kernel
theorem dX0_divisorOfBoth_25 : decode cX0_divisorOfBoth 25 = .ok (.istore 5, 2) := by decide +kernel
theorem dX0_divisorOfBoth_27 : decode cX0_divisorOfBoth 27 = .ok (.iload_n 3, 1) := by decide +kernel
theorem dX0_divisorOfBoth_28 : decode cX0_divisorOfBoth 28 = .ok (.istore_n 2, 1) := by decide +kernel
theorem dX0_divisorOfBoth_29 : decode cX0_divisorOfBoth 29 = .ok (.iload 5, 2) := by decide +kernel
theorem dX0_divisorOfBoth_31 : decode cX0_divisorOfBoth 31 = .ok (.istore_n 3, 1) := by decide +kernel
theorem dX0_divisorOfBoth_32 : decode cX0_divisorOfBoth 32 = .ok (.iinc 4 1, 3) := by decide +kernel
theorem dX0_divisorOfBoth_35 : decode cX0_divisorOfBoth 35 = .ok (.goto (-24), 3) := by decide +kernel
theorem dX0_divisorOfBoth_38 : decode cX0_divisorOfBoth 38 = .ok (.iload_n 2, 1) := by decide +kernel
theorem dX0_divisorOfBoth_39 : decode cX0_divisorOfBoth 39 = .ok (.ireturn, 1) := by decide +kernel
theorem dX0_howMany_0 : decode cX0_howMany 0 = .ok (.iconst 0, 1) := by decide +kernel
theorem dX0_howMany_1 : decode cX0_howMany 1 = .ok (.istore 4, 2) := by decide +kernel
theorem dX0_howMany_3 : decode cX0_howMany 3 = .ok (.iconst 0, 1) := by decide +kernel
theorem dX0_howMany_4 : decode cX0_howMany 4 = .ok (.istore 5, 2) := by decide +kernel
theorem dX0_howMany_6 : decode cX0_howMany 6 = .ok (.iload 5, 2) := by decide +kernel
theorem dX0_howMany_8 : decode cX0_howMany 8 = .ok (.iconst 2, 1) := by decide +kernel
theorem dX0_howMany_9 : decode cX0_howMany 9 = .ok (.if_icmp .ge 52, 3) := by decide +kernel
theorem dX0_howMany_12 : decode cX0_howMany 12 = .ok (.iconst 0, 1) := by decide +kernel
theorem dX0_howMany_13 : decode cX0_howMany 13 = .ok (.istore 6, 2) := by decide +kernel
theorem dX0_howMany_15 : decode cX0_howMany 15 = .ok (.iload 6, 2) := by decide +kernel
theorem dX0_howMany_17 : decode cX0_howMany 17 = .ok (.aload_n 0, 1) := by decide +kernel
theorem dX0_howMany_18 : decode cX0_howMany 18 = .ok (.iload_n 1, 1) := by decide +kernel
theorem dX0_howMany_19 : decode cX0_howMany 19 = .ok (.invokevirtual 9, 3) := by decide +kernel
theorem dX0_howMany_22 : decode cX0_howMany 22 = .ok (.if_icmp .ge 33, 3) := by decide +kernel
theorem dX0_howMany_25 : decode cX0_howMany 25 = .ok (.iload 4, 2) := by decide +kernel
theorem dX0_howMany_27 : decode cX0_howMany 27 = .ok (.aload_n 0, 1) := by decide +kernel
theorem dX0_howMany_28 : decode cX0_howMany 28 = .ok (.iload_n 1, 1) := by decide +kernel
theorem dX0_howMany_29 : decode cX0_howMany 29 = .ok (.iload_n 2, 1) := by decide +kernel
theorem dX0_howMany_30 : decode cX0_howMany 30 = .ok (.iload_n 3, 1) := by decide +kernel
theorem dX0_howMany_31 : decode cX0_howMany 31 = .ok (.iload 5, 2) := by decide +kernel
theorem dX0_howMany_33 : decode cX0_howMany 33 = .ok (.iload 6, 2) := by decide +kernel
theorem dX0_howMany_35 : decode cX0_howMany 35 = .ok (.invokestatic 32, 3) := by decide +kernel
theorem dX0_howMany_38 : decode cX0_howMany 38 = .ok (.ifCond .lt 7, 3) := by decide +kernel
theorem dX0_howMany_41 : decode cX0_howMany 41 = .ok (.iconst 1, 1) := by decide +kernel
theorem dX0_howMany_42 : decode cX0_howMany 42 = .ok (.goto 4, 3) := by decide +kernel
theorem dX0_howMany_45 : decode cX0_howMany 45 = .ok (.iconst 0, 1) := by decide +kernel
theorem dX0_howMany_46 : decode cX0_howMany 46 = .ok (.iadd, 1) := by decide +kernel
theorem dX0_howMany_47 : decode cX0_howMany 47 = .ok (.istore 4, 2) := by decide +kernel
theorem dX0_howMany_49 : decode cX0_howMany 49 = .ok (.iinc 6 1, 3) := by decide +kernel
theorem dX0_howMany_52 : decode cX0_howMany 52 = .ok (.goto (-37), 3) := by decide +kernel
theorem dX0_howMany_55 : decode cX0_howMany 55 = .ok (.iinc 5 1, 3) := by decide +kernel
theorem dX0_howMany_58 : decode cX0_howMany 58 = .ok (.goto (-52), 3) := by decide +kernel
theorem dX0_howMany_61 : decode cX0_howMany 61 = .ok (.iload 4, 2) := by decide +kernel
theorem dX0_howMany_63 : decode cX0_howMany 63 = .ok (.ireturn, 1) := by decide +kernel
theorem dX0_first_0 : decode cX0_first 0 = .ok (.iconst (-1), 1) := by decide +kernel
theorem dX0_first_1 : decode cX0_first 1 = .ok (.istore 4, 2) := by decide +kernel
theorem dX0_first_3 : decode cX0_first 3 = .ok (.iconst 0, 1) := by decide +kernel
theorem dX0_first_4 : decode cX0_first 4 = .ok (.istore 5, 2) := by decide +kernel
theorem dX0_first_6 : decode cX0_first 6 = .ok (.iload 5, 2) := by decide +kernel
theorem dX0_first_8 : decode cX0_first 8 = .ok (.iconst 2, 1) := by decide +kernel
theorem dX0_first_9 : decode cX0_first 9 = .ok (.if_icmp .ge 62, 3) := by decide +kernel
theorem dX0_first_12 : decode cX0_first 12 = .ok (.iconst 0, 1) := by decide +kernel
theorem dX0_first_13 : decode cX0_first 13 = .ok (.istore 6, 2) := by decide +kernel
theorem dX0_first_15 : decode cX0_first 15 = .ok (.iload 6, 2) := by decide +kernel
theorem dX0_first_17 : decode cX0_first 17 = .ok (.aload_n 0, 1) := by decide +kernel
theorem dX0_first_18 : decode cX0_first 18 = .ok (.iload_n 1, 1) := by decide +kernel
theorem dX0_first_19 : decode cX0_first 19 = .ok (.invokevirtual 9, 3) := by decide +kernel
theorem dX0_first_22 : decode cX0_first 22 = .ok (.if_icmp .ge 43, 3) := by decide +kernel
theorem dX0_first_25 : decode cX0_first 25 = .ok (.aload_n 0, 1) := by decide +kernel
theorem dX0_first_26 : decode cX0_first 26 = .ok (.iload_n 1, 1) := by decide +kernel
theorem dX0_first_27 : decode cX0_first 27 = .ok (.iload_n 2, 1) := by decide +kernel
theorem dX0_first_28 : decode cX0_first 28 = .ok (.iload_n 3, 1) := by decide +kernel
theorem dX0_first_29 : decode cX0_first 29 = .ok (.iload 5, 2) := by decide +kernel
theorem dX0_first_31 : decode cX0_first 31 = .ok (.iload 6, 2) := by decide +kernel
theorem dX0_first_33 : decode cX0_first 33 = .ok (.invokestatic 32, 3) := by decide +kernel
theorem dX0_first_36 : decode cX0_first 36 = .ok (.istore 7, 2) := by decide +kernel
theorem dX0_first_38 : decode cX0_first 38 = .ok (.iload 7, 2) := by decide +kernel
theorem dX0_first_40 : decode cX0_first 40 = .ok (.ifCond .lt 19, 3) := by decide +kernel
theorem dX0_first_43 : decode cX0_first 43 = .ok (.iload 4, 2) := by decide +kernel
theorem dX0_first_45 : decode cX0_first 45 = .ok (.ifCond .lt 10, 3) := by decide +kernel
theorem dX0_first_48 : decode cX0_first 48 = .ok (.iload 7, 2) := by decide +kernel
theorem dX0_first_50 : decode cX0_first 50 = .ok (.iload 4, 2) := by decide +kernel
theorem dX0_first_52 : decode cX0_first 52 = .ok (.if_icmp .ge 7, 3) := by decide +kernel
theorem dX0_first_55 : decode cX0_first 55 = .ok (.iload 7, 2) := by decide +kernel
theorem dX0_first_57 : decode cX0_first 57 = .ok (.istore 4, 2) := by decide +kernel
theorem dX0_first_59 : decode cX0_first 59 = .ok (.iinc 6 1, 3) := by decide +kernel
theorem dX0_first_62 : decode cX0_first 62 = .ok (.goto (-47), 3) := by decide +kernel
theorem dX0_first_65 : decode cX0_first 65 = .ok (.iinc 5 1, 3) := by decide +kernel
theorem dX0_first_68 : decode cX0_first 68 = .ok (.goto (-62), 3) := by decide +kernel
theorem dX0_first_71 : decode cX0_first 71 = .ok (.iload 4, 2) := by decide +kernel
theorem dX0_first_73 : decode cX0_first 73 = .ok (.ireturn, 1) := by decide +kernel
theorem dX0_part_0 : decode cX0_part 0 = .ok (.iload_n 0, 1) := by decide +kernel
theorem dX0_part_1 : decode cX0_part 1 = .ok (.bipush 24, 2) := by decide +kernel
theorem dX0_part_3 : decode cX0_part 3 = .ok (.idiv, 1) := by decide +kernel
theorem dX0_part_4 : decode cX0_part 4 = .ok (.istore_n 2, 1) := by decide +kernel
theorem dX0_part_5 : decode cX0_part 5 = .ok (.iload_n 2, 1) := by decide +kernel
theorem dX0_part_6 : decode cX0_part 6 = .ok (.bipush 6, 2) := by decide +kernel
theorem dX0_part_8 : decode cX0_part 8 = .ok (.idiv, 1) := by decide +kernel
theorem dX0_part_9 : decode cX0_part 9 = .ok (.istore_n 3, 1) := by decide +kernel
theorem dX0_part_10 : decode cX0_part 10 = .ok (.iload_n 3, 1) := by decide +kernel
theorem dX0_part_11 : decode cX0_part 11 = .ok (.bipush 6, 2) := by decide +kernel
theorem dX0_part_13 : decode cX0_part 13 = .ok (.idiv, 1) := by decide +kernel
theorem dX0_part_14 : decode cX0_part 14 = .ok (.istore 4, 2) := by decide +kernel
theorem dX0_part_16 : decode cX0_part 16 = .ok (.iload_n 1, 1) := by decide +kernel
theorem dX0_part_17 : decode cX0_part 17 = .ok (.tableswitch 51 1 4 #[31, 36, 41, 46], 31) := by decide +kernel
theorem dX0_part_48 : decode cX0_part 48 = .ok (.iload 4, 2) := by decide +kernel
theorem dX0_part_50 : decode cX0_part 50 = .ok (.iconst 2, 1) := by decide +kernel
theorem dX0_part_51 : decode cX0_part 51 = .ok (.idiv, 1) := by decide +kernel
theorem dX0_part_52 : decode cX0_part 52 = .ok (.ireturn, 1) := by decide +kernel
theorem dX0_part_53 : decode cX0_part 53 = .ok (.iload 4, 2) := by decide +kernel
theorem dX0_part_55 : decode cX0_part 55 = .ok (.iconst 2, 1) := by decide +kernel
theorem dX0_part_56 : decode cX0_part 56 = .ok (.irem, 1) := by decide +kernel
theorem dX0_part_57 : decode cX0_part 57 = .ok (.ireturn, 1) := by decide +kernel
theorem dX0_part_58 : decode cX0_part 58 = .ok (.iload_n 3, 1) := by decide +kernel
theorem dX0_part_59 : decode cX0_part 59 = .ok (.bipush 6, 2) := by decide +kernel
theorem dX0_part_61 : decode cX0_part 61 = .ok (.irem, 1) := by decide +kernel
theorem dX0_part_62 : decode cX0_part 62 = .ok (.ireturn, 1) := by decide +kernel
theorem dX0_part_63 : decode cX0_part 63 = .ok (.iload_n 2, 1) := by decide +kernel
theorem dX0_part_64 : decode cX0_part 64 = .ok (.bipush 6, 2) := by decide +kernel
theorem dX0_part_66 : decode cX0_part 66 = .ok (.irem, 1) := by decide +kernel
theorem dX0_part_67 : decode cX0_part 67 = .ok (.ireturn, 1) := by decide +kernel
theorem dX0_part_68 : decode cX0_part 68 = .ok (.iload_n 0, 1) := by decide +kernel
theorem dX0_part_69 : decode cX0_part 69 = .ok (.bipush 24, 2) := by decide +kernel
theorem dX0_part_71 : decode cX0_part 71 = .ok (.irem, 1) := by decide +kernel
theorem dX0_part_72 : decode cX0_part 72 = .ok (.ireturn, 1) := by decide +kernel
theorem dX0_origins_0 : decode cX0_origins 0 = .ok (.iconst 0, 1) := by decide +kernel
theorem dX0_origins_1 : decode cX0_origins 1 = .ok (.istore_n 3, 1) := by decide +kernel
theorem dX0_origins_2 : decode cX0_origins 2 = .ok (.iconst 0, 1) := by decide +kernel
theorem dX0_origins_3 : decode cX0_origins 3 = .ok (.istore 4, 2) := by decide +kernel
theorem dX0_origins_5 : decode cX0_origins 5 = .ok (.iload 4, 2) := by decide +kernel
theorem dX0_origins_7 : decode cX0_origins 7 = .ok (.aload_n 0, 1) := by decide +kernel
theorem dX0_origins_8 : decode cX0_origins 8 = .ok (.getfield 36, 3) := by decide +kernel
theorem dX0_origins_11 : decode cX0_origins 11 = .ok (.getfield 40, 3) := by decide +kernel
theorem dX0_origins_14 : decode cX0_origins 14 = .ok (.if_icmp .ge 88, 3) := by decide +kernel
theorem dX0_origins_17 : decode cX0_origins 17 = .ok (.aload_n 0, 1) := by decide +kernel
theorem dX0_origins_18 : decode cX0_origins 18 = .ok (.iload 4, 2) := by decide +kernel
theorem dX0_origins_20 : decode cX0_origins 20 = .ok (.invokevirtual 46, 3) := by decide +kernel
theorem dX0_origins_23 : decode cX0_origins 23 = .ok (.aload_n 0, 1) := by decide +kernel
theorem dX0_origins_24 : decode cX0_origins 24 = .ok (.iload_n 1, 1) := by decide +kernel
theorem dX0_origins_25 : decode cX0_origins 25 = .ok (.invokevirtual 46, 3) := by decide +kernel
theorem dX0_origins_28 : decode cX0_origins 28 = .ok (.if_icmp .lt 23, 3) := by decide +kernel
theorem dX0_origins_31 : decode cX0_origins 31 = .ok (.aload_n 0, 1) := by decide +kernel
theorem dX0_origins_32 : decode cX0_origins 32 = .ok (.iload 4, 2) := by decide +kernel
theorem dX0_origins_34 : decode cX0_origins 34 = .ok (.invokevirtual 46, 3) := by decide +kernel
theorem dX0_origins_37 : decode cX0_origins 37 = .ok (.aload_n 0, 1) := by decide +kernel
theorem dX0_origins_38 : decode cX0_origins 38 = .ok (.iload_n 1, 1) := by decide +kernel
theorem dX0_origins_39 : decode cX0_origins 39 = .ok (.invokevirtual 46, 3) := by decide +kernel
theorem dX0_origins_42 : decode cX0_origins 42 = .ok (.if_icmp .ne 13, 3) := by decide +kernel
theorem dX0_origins_45 : decode cX0_origins 45 = .ok (.iload 4, 2) := by decide +kernel
theorem dX0_origins_47 : decode cX0_origins 47 = .ok (.iload_n 1, 1) := by decide +kernel
theorem dX0_origins_48 : decode cX0_origins 48 = .ok (.if_icmp .ge 7, 3) := by decide +kernel
theorem dX0_origins_51 : decode cX0_origins 51 = .ok (.iconst 1, 1) := by decide +kernel
theorem dX0_origins_52 : decode cX0_origins 52 = .ok (.goto 4, 3) := by decide +kernel
theorem dX0_origins_55 : decode cX0_origins 55 = .ok (.iconst 0, 1) := by decide +kernel
theorem dX0_origins_56 : decode cX0_origins 56 = .ok (.istore 5, 2) := by decide +kernel
theorem dX0_origins_58 : decode cX0_origins 58 = .ok (.iload 5, 2) := by decide +kernel
theorem dX0_origins_60 : decode cX0_origins 60 = .ok (.ifCond .eq 36, 3) := by decide +kernel
theorem dX0_origins_63 : decode cX0_origins 63 = .ok (.aload_n 0, 1) := by decide +kernel
theorem dX0_origins_64 : decode cX0_origins 64 = .ok (.iload 4, 2) := by decide +kernel
theorem dX0_origins_66 : decode cX0_origins 66 = .ok (.invokevirtual 49, 3) := by decide +kernel
theorem dX0_origins_69 : decode cX0_origins 69 = .ok (.aload_n 0, 1) := by decide +kernel
theorem dX0_origins_70 : decode cX0_origins 70 = .ok (.iload_n 1, 1) := by decide +kernel
theorem dX0_origins_71 : decode cX0_origins 71 = .ok (.invokevirtual 49, 3) := by decide +kernel
theorem dX0_origins_74 : decode cX0_origins 74 = .ok (.iand, 1) := by decide +kernel
theorem dX0_origins_75 : decode cX0_origins 75 = .ok (.ifCond .eq 21, 3) := by decide +kernel
theorem dX0_origins_78 : decode cX0_origins 78 = .ok (.aload_n 0, 1) := by decide +kernel
theorem dX0_origins_79 : decode cX0_origins 79 = .ok (.iload 4, 2) := by decide +kernel
theorem dX0_origins_81 : decode cX0_origins 81 = .ok (.iload_n 1, 1) := by decide +kernel
theorem dX0_origins_82 : decode cX0_origins 82 = .ok (.iload_n 2, 1) := by decide +kernel
theorem dX0_origins_83 : decode cX0_origins 83 = .ok (.invokestatic 52, 3) := by decide +kernel
theorem dX0_origins_86 : decode cX0_origins 86 = .ok (.ifCond .lt 10, 3) := by decide +kernel
theorem dX0_origins_89 : decode cX0_origins 89 = .ok (.iload_n 3, 1) := by decide +kernel
theorem dX0_origins_90 : decode cX0_origins 90 = .ok (.iconst 1, 1) := by decide +kernel
theorem dX0_origins_91 : decode cX0_origins 91 = .ok (.iload 4, 2) := by decide +kernel
theorem dX0_origins_93 : decode cX0_origins 93 = .ok (.ishl, 1) := by decide +kernel
theorem dX0_origins_94 : decode cX0_origins 94 = .ok (.ior, 1) := by decide +kernel
theorem dX0_origins_95 : decode cX0_origins 95 = .ok (.istore_n 3, 1) := by decide +kernel
theorem dX0_origins_96 : decode cX0_origins 96 = .ok (.iinc 4 1, 3) := by decide +kernel
theorem dX0_origins_99 : decode cX0_origins 99 = .ok (.goto (-94), 3) := by decide +kernel
theorem dX0_origins_102 : decode cX0_origins 102 = .ok (.iload_n 3, 1) := by decide +kernel
theorem dX0_origins_103 : decode cX0_origins 103 = .ok (.ireturn, 1) := by decide +kernel
theorem dX1_init_0 : decode cX1_init 0 = .ok (.aload_n 0, 1) := by decide +kernel
theorem dX1_init_1 : decode cX1_init 1 = .ok (.invokespecial 1, 3) := by decide +kernel
theorem dX1_init_4 : decode cX1_init 4 = .ok (.aload_n 0, 1) := by decide +kernel
theorem dX1_init_5 : decode cX1_init 5 = .ok (.bipush 56, 2) := by decide +kernel
theorem dX1_init_7 : decode cX1_init 7 = .ok (.newarray .byte, 2) := by decide +kernel
theorem dX1_init_9 : decode cX1_init 9 = .ok (.putfield 9, 3) := by decide +kernel
theorem dX1_init_12 : decode cX1_init 12 = .ok (.aload_n 0, 1) := by decide +kernel
theorem dX1_init_13 : decode cX1_init 13 = .ok (.iconst 0, 1) := by decide +kernel
theorem dX1_init_14 : decode cX1_init 14 = .ok (.putfield 13, 3) := by decide +kernel
theorem dX1_init_17 : decode cX1_init 17 = .ok (.return_, 1) := by decide +kernel
theorem dX1_add_0 : decode cX1_add 0 = .ok (.aload_n 0, 1) := by decide +kernel
theorem dX1_add_1 : decode cX1_add 1 = .ok (.getfield 13, 3) := by decide +kernel
theorem dX1_add_4 : decode cX1_add 4 = .ok (.bipush 56, 2) := by decide +kernel
theorem dX1_add_6 : decode cX1_add 6 = .ok (.if_icmp .ge 23, 3) := by decide +kernel
theorem dX1_add_9 : decode cX1_add 9 = .ok (.aload_n 0, 1) := by decide +kernel
theorem dX1_add_10 : decode cX1_add 10 = .ok (.getfield 9, 3) := by decide +kernel
theorem dX1_add_13 : decode cX1_add 13 = .ok (.aload_n 0, 1) := by decide +kernel
theorem dX1_add_14 : decode cX1_add 14 = .ok (.getfield 13, 3) := by decide +kernel
theorem dX1_add_17 : decode cX1_add 17 = .ok (.iload_n 1, 1) := by decide +kernel
theorem dX1_add_18 : decode cX1_add 18 = .ok (.bastore, 1) := by decide +kernel
theorem dX1_add_19 : decode cX1_add 19 = .ok (.aload_n 0, 1) := by decide +kernel
theorem dX1_add_20 : decode cX1_add 20 = .ok (.dup, 1) := by decide +kernel
theorem dX1_add_21 : decode cX1_add 21 = .ok (.getfield 13, 3) := by decide +kernel
theorem dX1_add_24 : decode cX1_add 24 = .ok (.iconst 1, 1) := by decide +kernel
theorem dX1_add_25 : decode cX1_add 25 = .ok (.iadd, 1) := by decide +kernel
theorem dX1_add_26 : decode cX1_add 26 = .ok (.putfield 13, 3) := by decide +kernel
theorem dX1_add_29 : decode cX1_add 29 = .ok (.return_, 1) := by decide +kernel
theorem dX1_clear_0 : decode cX1_clear 0 = .ok (.aload_n 0, 1) := by decide +kernel
theorem dX1_clear_1 : decode cX1_clear 1 = .ok (.iconst 0, 1) := by decide +kernel
theorem dX1_clear_2 : decode cX1_clear 2 = .ok (.putfield 13, 3) := by decide +kernel
theorem dX1_clear_5 : decode cX1_clear 5 = .ok (.return_, 1) := by decide +kernel
theorem dX1_copyFrom_0 : decode cX1_copyFrom 0 = .ok (.aload_n 1, 1) := by decide +kernel
theorem dX1_copyFrom_1 : decode cX1_copyFrom 1 = .ok (.getfield 9, 3) := by decide +kernel
theorem dX1_copyFrom_4 : decode cX1_copyFrom 4 = .ok (.iconst 0, 1) := by decide +kernel
theorem dX1_copyFrom_5 : decode cX1_copyFrom 5 = .ok (.aload_n 0, 1) := by decide +kernel
theorem dX1_copyFrom_6 : decode cX1_copyFrom 6 = .ok (.getfield 9, 3) := by decide +kernel
theorem dX1_copyFrom_9 : decode cX1_copyFrom 9 = .ok (.iconst 0, 1) := by decide +kernel
theorem dX1_copyFrom_10 : decode cX1_copyFrom 10 = .ok (.bipush 56, 2) := by decide +kernel
theorem dX1_copyFrom_12 : decode cX1_copyFrom 12 = .ok (.invokestatic 17, 3) := by decide +kernel
theorem dX1_copyFrom_15 : decode cX1_copyFrom 15 = .ok (.aload_n 0, 1) := by decide +kernel
theorem dX1_copyFrom_16 : decode cX1_copyFrom 16 = .ok (.aload_n 1, 1) := by decide +kernel
theorem dX1_copyFrom_17 : decode cX1_copyFrom 17 = .ok (.getfield 13, 3) := by decide +kernel
theorem dX1_copyFrom_20 : decode cX1_copyFrom 20 = .ok (.putfield 13, 3) := by decide +kernel
theorem dX1_copyFrom_23 : decode cX1_copyFrom 23 = .ok (.return_, 1) := by decide +kernel
theorem dX2_init_0 : decode cX2_init 0 = .ok (.aload_n 0, 1) := by decide +kernel
theorem dX2_init_1 : decode cX2_init 1 = .ok (.invokespecial 3, 3) := by decide +kernel
theorem dX2_init_4 : decode cX2_init 4 = .ok (.aload_n 0, 1) := by decide +kernel
theorem dX2_init_5 : decode cX2_init 5 = .ok (.aconst_null, 1) := by decide +kernel
theorem dX2_init_6 : decode cX2_init 6 = .ok (.putfield 9, 3) := by decide +kernel
theorem dX2_init_9 : decode cX2_init 9 = .ok (.aload_n 0, 1) := by decide +kernel
theorem dX2_init_10 : decode cX2_init 10 = .ok (.iconst 0, 1) := by decide +kernel
theorem dX2_init_11 : decode cX2_init 11 = .ok (.putfield 15, 3) := by decide +kernel
theorem dX2_init_14 : decode cX2_init 14 = .ok (.aload_n 0, 1) := by decide +kernel
theorem dX2_init_15 : decode cX2_init 15 = .ok (.iconst 0, 1) := by decide +kernel
theorem dX2_init_16 : decode cX2_init 16 = .ok (.putfield 19, 3) := by decide +kernel
theorem dX2_init_19 : decode cX2_init 19 = .ok (.aload_n 0, 1) := by decide +kernel
theorem dX2_init_20 : decode cX2_init 20 = .ok (.iconst 0, 1) := by decide +kernel
theorem dX2_init_21 : decode cX2_init 21 = .ok (.putfield 22, 3) := by decide +kernel
theorem dX2_init_24 : decode cX2_init 24 = .ok (.aload_n 0, 1) := by decide +kernel
theorem dX2_init_25 : decode cX2_init 25 = .ok (.iconst 0, 1) := by decide +kernel
theorem dX2_init_26 : decode cX2_init 26 = .ok (.putfield 25, 3) := by decide +kernel
theorem dX2_init_29 : decode cX2_init 29 = .ok (.aload_n 0, 1) := by decide +kernel
theorem dX2_init_30 : decode cX2_init 30 = .ok (.iconst 0, 1) := by decide +kernel
theorem dX2_init_31 : decode cX2_init 31 = .ok (.putfield 28, 3) := by decide +kernel
theorem dX2_init_34 : decode cX2_init 34 = .ok (.aload_n 0, 1) := by decide +kernel
theorem dX2_init_35 : decode cX2_init 35 = .ok (.iconst 0, 1) := by decide +kernel
theorem dX2_init_36 : decode cX2_init 36 = .ok (.putfield 31, 3) := by decide +kernel
theorem dX2_init_39 : decode cX2_init 39 = .ok (.aload_n 0, 1) := by decide +kernel
theorem dX2_init_40 : decode cX2_init 40 = .ok (.iconst 0, 1) := by decide +kernel
theorem dX2_init_41 : decode cX2_init 41 = .ok (.putfield 34, 3) := by decide +kernel
theorem dX2_init_44 : decode cX2_init 44 = .ok (.return_, 1) := by decide +kernel
theorem dX2_read_0 : decode cX2_read 0 = .ok (.aload_n 0, 1) := by decide +kernel
theorem dX2_read_1 : decode cX2_read 1 = .ok (.aload_n 1, 1) := by decide +kernel
theorem dX2_read_2 : decode cX2_read 2 = .ok (.putfield 9, 3) := by decide +kernel
theorem dX2_read_5 : decode cX2_read 5 = .ok (.aload_n 0, 1) := by decide +kernel
theorem dX2_read_6 : decode cX2_read 6 = .ok (.iload_n 2, 1) := by decide +kernel
theorem dX2_read_7 : decode cX2_read 7 = .ok (.putfield 15, 3) := by decide +kernel
theorem dX2_read_10 : decode cX2_read 10 = .ok (.aload_n 0, 1) := by decide +kernel
theorem dX2_read_11 : decode cX2_read 11 = .ok (.iload_n 3, 1) := by decide +kernel
theorem dX2_read_12 : decode cX2_read 12 = .ok (.putfield 19, 3) := by decide +kernel
theorem dX2_read_15 : decode cX2_read 15 = .ok (.aload_n 0, 1) := by decide +kernel
theorem dX2_read_16 : decode cX2_read 16 = .ok (.iload 4, 2) := by decide +kernel
theorem dX2_read_18 : decode cX2_read 18 = .ok (.putfield 22, 3) := by decide +kernel
theorem dX2_read_21 : decode cX2_read 21 = .ok (.aload_n 0, 1) := by decide +kernel
theorem dX2_read_22 : decode cX2_read 22 = .ok (.iload 5, 2) := by decide +kernel
theorem dX2_read_24 : decode cX2_read 24 = .ok (.putfield 25, 3) := by decide +kernel
theorem dX2_read_27 : decode cX2_read 27 = .ok (.aload_n 0, 1) := by decide +kernel
theorem dX2_read_28 : decode cX2_read 28 = .ok (.iconst 0, 1) := by decide +kernel
theorem dX2_read_29 : decode cX2_read 29 = .ok (.putfield 28, 3) := by decide +kernel
theorem dX2_read_32 : decode cX2_read 32 = .ok (.aload_n 0, 1) := by decide +kernel
theorem dX2_read_33 : decode cX2_read 33 = .ok (.iconst 0, 1) := by decide +kernel
theorem dX2_read_34 : decode cX2_read 34 = .ok (.putfield 31, 3) := by decide +kernel
theorem dX2_read_37 : decode cX2_read 37 = .ok (.aload_n 0, 1) := by decide +kernel
theorem dX2_read_38 : decode cX2_read 38 = .ok (.iconst 0, 1) := by decide +kernel
theorem dX2_read_39 : decode cX2_read 39 = .ok (.putfield 34, 3) := by decide +kernel
theorem dX2_read_42 : decode cX2_read 42 = .ok (.aload_n 0, 1) := by decide +kernel
theorem dX2_read_43 : decode cX2_read 43 = .ok (.iconst 0, 1) := by decide +kernel
theorem dX2_read_44 : decode cX2_read 44 = .ok (.invokevirtual 38, 3) := by decide +kernel
theorem dX2_read_47 : decode cX2_read 47 = .ok (.istore 6, 2) := by decide +kernel
theorem dX2_read_49 : decode cX2_read 49 = .ok (.aload_n 0, 1) := by decide +kernel
theorem dX2_read_50 : decode cX2_read 50 = .ok (.invokevirtual 42, 3) := by decide +kernel
theorem dX2_read_53 : decode cX2_read 53 = .ok (.iconst (-1), 1) := by decide +kernel
theorem dX2_read_54 : decode cX2_read 54 = .ok (.if_icmp .eq 8, 3) := by decide +kernel
theorem dX2_read_57 : decode cX2_read 57 = .ok (.aload_n 0, 1) := by decide +kernel
theorem dX2_read_58 : decode cX2_read 58 = .ok (.iconst 1, 1) := by decide +kernel
theorem dX2_read_59 : decode cX2_read 59 = .ok (.putfield 34, 3) := by decide +kernel
theorem dX2_read_62 : decode cX2_read 62 = .ok (.iload 6, 2) := by decide +kernel
theorem dX2_read_64 : decode cX2_read 64 = .ok (.ireturn, 1) := by decide +kernel
theorem dX2_next_0 : decode cX2_next 0 = .ok (.aload_n 0, 1) := by decide +kernel
theorem dX2_next_1 : decode cX2_next 1 = .ok (.getfield 34, 3) := by decide +kernel
theorem dX2_next_4 : decode cX2_next 4 = .ok (.ifCond .ne 33, 3) := by decide +kernel
theorem dX2_next_7 : decode cX2_next 7 = .ok (.aload_n 0, 1) := by decide +kernel
theorem dX2_next_8 : decode cX2_next 8 = .ok (.getfield 9, 3) := by decide +kernel
theorem dX2_next_11 : decode cX2_next 11 = .ok (.ifnull 26, 3) := by decide +kernel
theorem dX2_next_14 : decode cX2_next 14 = .ok (.aload_n 0, 1) := by decide +kernel
theorem dX2_next_15 : decode cX2_next 15 = .ok (.getfield 28, 3) := by decide +kernel
theorem dX2_next_18 : decode cX2_next 18 = .ok (.aload_n 0, 1) := by decide +kernel
theorem dX2_next_19 : decode cX2_next 19 = .ok (.getfield 9, 3) := by decide +kernel
theorem dX2_next_22 : decode cX2_next 22 = .ok (.getfield 46, 3) := by decide +kernel
theorem dX2_next_25 : decode cX2_next 25 = .ok (.if_icmp .ge 12, 3) := by decide +kernel
theorem dX2_next_28 : decode cX2_next 28 = .ok (.aload_n 0, 1) := by decide +kernel
theorem dX2_next_29 : decode cX2_next 29 = .ok (.getfield 28, 3) := by decide +kernel
theorem dX2_next_32 : decode cX2_next 32 = .ok (.bipush 56, 2) := by decide +kernel
theorem dX2_next_34 : decode cX2_next 34 = .ok (.if_icmp .lt 7, 3) := by decide +kernel
theorem dX2_next_37 : decode cX2_next 37 = .ok (.iconst (-1), 1) := by decide +kernel
theorem dX2_next_38 : decode cX2_next 38 = .ok (.goto 19, 3) := by decide +kernel
theorem dX2_next_41 : decode cX2_next 41 = .ok (.aload_n 0, 1) := by decide +kernel
theorem dX2_next_42 : decode cX2_next 42 = .ok (.getfield 9, 3) := by decide +kernel
theorem dX2_next_45 : decode cX2_next 45 = .ok (.getfield 51, 3) := by decide +kernel
theorem dX2_next_48 : decode cX2_next 48 = .ok (.aload_n 0, 1) := by decide +kernel
theorem dX2_next_49 : decode cX2_next 49 = .ok (.getfield 28, 3) := by decide +kernel
theorem dX2_next_52 : decode cX2_next 52 = .ok (.baload, 1) := by decide +kernel
theorem dX2_next_53 : decode cX2_next 53 = .ok (.sipush 255, 3) := by decide +kernel
theorem dX2_next_56 : decode cX2_next 56 = .ok (.iand, 1) := by decide +kernel
theorem dX2_next_57 : decode cX2_next 57 = .ok (.ireturn, 1) := by decide +kernel
theorem dX2_takes_0 : decode cX2_takes 0 = .ok (.aload_n 0, 1) := by decide +kernel
theorem dX2_takes_1 : decode cX2_takes 1 = .ok (.invokevirtual 42, 3) := by decide +kernel
theorem dX2_takes_4 : decode cX2_takes 4 = .ok (.iload_n 1, 1) := by decide +kernel
theorem dX2_takes_5 : decode cX2_takes 5 = .ok (.if_icmp .eq 5, 3) := by decide +kernel
theorem dX2_takes_8 : decode cX2_takes 8 = .ok (.iconst 0, 1) := by decide +kernel
theorem dX2_takes_9 : decode cX2_takes 9 = .ok (.ireturn, 1) := by decide +kernel
theorem dX2_takes_10 : decode cX2_takes 10 = .ok (.aload_n 0, 1) := by decide +kernel
theorem dX2_takes_11 : decode cX2_takes 11 = .ok (.dup, 1) := by decide +kernel
theorem dX2_takes_12 : decode cX2_takes 12 = .ok (.getfield 28, 3) := by decide +kernel
theorem dX2_takes_15 : decode cX2_takes 15 = .ok (.iconst 1, 1) := by decide +kernel
theorem dX2_takes_16 : decode cX2_takes 16 = .ok (.iadd, 1) := by decide +kernel
theorem dX2_takes_17 : decode cX2_takes 17 = .ok (.putfield 28, 3) := by decide +kernel
theorem dX2_takes_20 : decode cX2_takes 20 = .ok (.iconst 1, 1) := by decide +kernel
theorem dX2_takes_21 : decode cX2_takes 21 = .ok (.ireturn, 1) := by decide +kernel
theorem dX2_wants_0 : decode cX2_wants 0 = .ok (.aload_n 0, 1) := by decide +kernel
theorem dX2_wants_1 : decode cX2_wants 1 = .ok (.iload_n 1, 1) := by decide +kernel
theorem dX2_wants_2 : decode cX2_wants 2 = .ok (.invokevirtual 55, 3) := by decide +kernel
theorem dX2_wants_5 : decode cX2_wants 5 = .ok (.ifCond .ne 8, 3) := by decide +kernel
theorem dX2_wants_8 : decode cX2_wants 8 = .ok (.aload_n 0, 1) := by decide +kernel
theorem dX2_wants_9 : decode cX2_wants 9 = .ok (.iconst 1, 1) := by decide +kernel
theorem dX2_wants_10 : decode cX2_wants 10 = .ok (.putfield 34, 3) := by decide +kernel
theorem dX2_wants_13 : decode cX2_wants 13 = .ok (.return_, 1) := by decide +kernel
theorem dX2_choice_0 : decode cX2_choice 0 = .ok (.aload_n 0, 1) := by decide +kernel
theorem dX2_choice_1 : decode cX2_choice 1 = .ok (.iconst 0, 1) := by decide +kernel
theorem dX2_choice_2 : decode cX2_choice 2 = .ok (.iload_n 1, 1) := by decide +kernel
theorem dX2_choice_3 : decode cX2_choice 3 = .ok (.invokevirtual 59, 3) := by decide +kernel
theorem dX2_choice_6 : decode cX2_choice 6 = .ok (.istore_n 2, 1) := by decide +kernel
theorem dX2_choice_7 : decode cX2_choice 7 = .ok (.aload_n 0, 1) := by decide +kernel
theorem dX2_choice_8 : decode cX2_choice 8 = .ok (.bipush 63, 2) := by decide +kernel
theorem dX2_choice_10 : decode cX2_choice 10 = .ok (.invokevirtual 55, 3) := by decide +kernel
theorem dX2_choice_13 : decode cX2_choice 13 = .ok (.ifCond .ne 5, 3) := by decide +kernel
theorem dX2_choice_16 : decode cX2_choice 16 = .ok (.iload_n 2, 1) := by decide +kernel
theorem dX2_choice_17 : decode cX2_choice 17 = .ok (.ireturn, 1) := by decide +kernel
theorem dX2_choice_18 : decode cX2_choice 18 = .ok (.aload_n 0, 1) := by decide +kernel
theorem dX2_choice_19 : decode cX2_choice 19 = .ok (.dup, 1) := by decide +kernel
theorem dX2_choice_20 : decode cX2_choice 20 = .ok (.getfield 31, 3) := by decide +kernel
theorem dX2_choice_23 : decode cX2_choice 23 = .ok (.iconst 1, 1) := by decide +kernel
theorem dX2_choice_24 : decode cX2_choice 24 = .ok (.iadd, 1) := by decide +kernel
theorem dX2_choice_25 : decode cX2_choice 25 = .ok (.putfield 31, 3) := by decide +kernel
theorem dX2_choice_28 : decode cX2_choice 28 = .ok (.aload_n 0, 1) := by decide +kernel
theorem dX2_choice_29 : decode cX2_choice 29 = .ok (.iconst 0, 1) := by decide +kernel
theorem dX2_choice_30 : decode cX2_choice 30 = .ok (.iload_n 1, 1) := by decide +kernel
theorem dX2_choice_31 : decode cX2_choice 31 = .ok (.invokevirtual 59, 3) := by decide +kernel
theorem dX2_choice_34 : decode cX2_choice 34 = .ok (.istore_n 3, 1) := by decide +kernel
theorem dX2_choice_35 : decode cX2_choice 35 = .ok (.aload_n 0, 1) := by decide +kernel
theorem dX2_choice_36 : decode cX2_choice 36 = .ok (.bipush 58, 2) := by decide +kernel
theorem dX2_choice_38 : decode cX2_choice 38 = .ok (.invokevirtual 63, 3) := by decide +kernel
theorem dX2_choice_41 : decode cX2_choice 41 = .ok (.aload_n 0, 1) := by decide +kernel
theorem dX2_choice_42 : decode cX2_choice 42 = .ok (.getfield 34, 3) := by decide +kernel
theorem dX2_choice_45 : decode cX2_choice 45 = .ok (.ifCond .eq 7, 3) := by decide +kernel
theorem dX2_choice_48 : decode cX2_choice 48 = .ok (.iconst 0, 1) := by decide +kernel
theorem dX2_choice_49 : decode cX2_choice 49 = .ok (.goto 9, 3) := by decide +kernel
theorem dX2_choice_52 : decode cX2_choice 52 = .ok (.aload_n 0, 1) := by decide +kernel
theorem dX2_choice_53 : decode cX2_choice 53 = .ok (.iconst 0, 1) := by decide +kernel
theorem dX2_choice_54 : decode cX2_choice 54 = .ok (.iload_n 1, 1) := by decide +kernel
theorem dX2_choice_55 : decode cX2_choice 55 = .ok (.invokevirtual 59, 3) := by decide +kernel
theorem dX2_choice_58 : decode cX2_choice 58 = .ok (.istore 4, 2) := by decide +kernel
theorem dX2_choice_60 : decode cX2_choice 60 = .ok (.iload_n 2, 1) := by decide +kernel
theorem dX2_choice_61 : decode cX2_choice 61 = .ok (.ifCond .eq 7, 3) := by decide +kernel
theorem dX2_choice_64 : decode cX2_choice 64 = .ok (.iload_n 3, 1) := by decide +kernel
theorem dX2_choice_65 : decode cX2_choice 65 = .ok (.goto 5, 3) := by decide +kernel
theorem dX2_choice_68 : decode cX2_choice 68 = .ok (.iload 4, 2) := by decide +kernel
theorem dX2_choice_70 : decode cX2_choice 70 = .ok (.ireturn, 1) := by decide +kernel
theorem dX2_joined_0 : decode cX2_joined 0 = .ok (.iload_n 1, 1) := by decide +kernel
theorem dX2_joined_1 : decode cX2_joined 1 = .ok (.iconst 4, 1) := by decide +kernel
theorem dX2_joined_2 : decode cX2_joined 2 = .ok (.if_icmp .lt 9, 3) := by decide +kernel
theorem dX2_joined_5 : decode cX2_joined 5 = .ok (.aload_n 0, 1) := by decide +kernel
theorem dX2_joined_6 : decode cX2_joined 6 = .ok (.iload_n 2, 1) := by decide +kernel
theorem dX2_joined_7 : decode cX2_joined 7 = .ok (.invokevirtual 67, 3) := by decide +kernel
theorem dX2_joined_10 : decode cX2_joined 10 = .ok (.ireturn, 1) := by decide +kernel
theorem dX2_joined_11 : decode cX2_joined 11 = .ok (.aload_n 0, 1) := by decide +kernel
theorem dX2_joined_12 : decode cX2_joined 12 = .ok (.iload_n 1, 1) := by decide +kernel
theorem dX2_joined_13 : decode cX2_joined 13 = .ok (.iconst 1, 1) := by decide +kernel
theorem dX2_joined_14 : decode cX2_joined 14 = .ok (.iadd, 1) := by decide +kernel
theorem dX2_joined_15 : decode cX2_joined 15 = .ok (.iload_n 2, 1) := by decide +kernel
theorem dX2_joined_16 : decode cX2_joined 16 = .ok (.invokevirtual 59, 3) := by decide +kernel
theorem dX2_joined_19 : decode cX2_joined 19 = .ok (.istore_n 3, 1) := by decide +kernel
theorem dX2_joined_20 : decode cX2_joined 20 = .ok (.iload_n 1, 1) := by decide +kernel
theorem dX2_joined_21 : decode cX2_joined 21 = .ok (.iconst 1, 1) := by decide +kernel
theorem dX2_joined_22 : decode cX2_joined 22 = .ok (.if_icmp .ne 7, 3) := by decide +kernel
theorem dX2_joined_25 : decode cX2_joined 25 = .ok (.iconst 1, 1) := by decide +kernel
theorem dX2_joined_26 : decode cX2_joined 26 = .ok (.goto 5, 3) := by decide +kernel
theorem dX2_joined_29 : decode cX2_joined 29 = .ok (.bipush 56, 2) := by decide +kernel
theorem dX2_joined_31 : decode cX2_joined 31 = .ok (.istore 4, 2) := by decide +kernel
theorem dX2_joined_33 : decode cX2_joined 33 = .ok (.iconst 0, 1) := by decide +kernel
theorem dX2_joined_34 : decode cX2_joined 34 = .ok (.istore 5, 2) := by decide +kernel
theorem dX2_joined_36 : decode cX2_joined 36 = .ok (.iload 5, 2) := by decide +kernel
theorem dX2_joined_38 : decode cX2_joined 38 = .ok (.iload 4, 2) := by decide +kernel
theorem dX2_joined_40 : decode cX2_joined 40 = .ok (.if_icmp .ge 61, 3) := by decide +kernel
theorem dX2_joined_43 : decode cX2_joined 43 = .ok (.aload_n 0, 1) := by decide +kernel
theorem dX2_joined_44 : decode cX2_joined 44 = .ok (.invokevirtual 42, 3) := by decide +kernel
theorem dX2_joined_47 : decode cX2_joined 47 = .ok (.invokestatic 70, 3) := by decide +kernel
theorem dX2_joined_50 : decode cX2_joined 50 = .ok (.iload_n 1, 1) := by decide +kernel
theorem dX2_joined_51 : decode cX2_joined 51 = .ok (.if_icmp .ne 50, 3) := by decide +kernel
theorem dX2_joined_54 : decode cX2_joined 54 = .ok (.aload_n 0, 1) := by decide +kernel
theorem dX2_joined_55 : decode cX2_joined 55 = .ok (.invokevirtual 42, 3) := by decide +kernel
theorem dX2_joined_58 : decode cX2_joined 58 = .ok (.istore 6, 2) := by decide +kernel
theorem dX2_joined_60 : decode cX2_joined 60 = .ok (.aload_n 0, 1) := by decide +kernel
theorem dX2_joined_61 : decode cX2_joined 61 = .ok (.dup, 1) := by decide +kernel
theorem dX2_joined_62 : decode cX2_joined 62 = .ok (.getfield 28, 3) := by decide +kernel
theorem dX2_joined_65 : decode cX2_joined 65 = .ok (.iconst 1, 1) := by decide +kernel
theorem dX2_joined_66 : decode cX2_joined 66 = .ok (.iadd, 1) := by decide +kernel
theorem dX2_joined_67 : decode cX2_joined 67 = .ok (.putfield 28, 3) := by decide +kernel
theorem dX2_joined_70 : decode cX2_joined 70 = .ok (.aload_n 0, 1) := by decide +kernel
theorem dX2_joined_71 : decode cX2_joined 71 = .ok (.dup, 1) := by decide +kernel
theorem dX2_joined_72 : decode cX2_joined 72 = .ok (.getfield 31, 3) := by decide +kernel
theorem dX2_joined_75 : decode cX2_joined 75 = .ok (.iconst 1, 1) := by decide +kernel
theorem dX2_joined_76 : decode cX2_joined 76 = .ok (.iadd, 1) := by decide +kernel
theorem dX2_joined_77 : decode cX2_joined 77 = .ok (.putfield 31, 3) := by decide +kernel
theorem dX2_joined_80 : decode cX2_joined 80 = .ok (.iload 6, 2) := by decide +kernel
theorem dX2_joined_82 : decode cX2_joined 82 = .ok (.iload_n 3, 1) := by decide +kernel
theorem dX2_joined_83 : decode cX2_joined 83 = .ok (.aload_n 0, 1) := by decide +kernel
theorem dX2_joined_84 : decode cX2_joined 84 = .ok (.iload_n 1, 1) := by decide +kernel
theorem dX2_joined_85 : decode cX2_joined 85 = .ok (.iconst 1, 1) := by decide +kernel
theorem dX2_joined_86 : decode cX2_joined 86 = .ok (.iadd, 1) := by decide +kernel
theorem dX2_joined_87 : decode cX2_joined 87 = .ok (.iload_n 2, 1) := by decide +kernel
theorem dX2_joined_88 : decode cX2_joined 88 = .ok (.invokevirtual 59, 3) := by decide +kernel
theorem dX2_joined_91 : decode cX2_joined 91 = .ok (.invokestatic 73, 3) := by decide +kernel
theorem dX2_joined_94 : decode cX2_joined 94 = .ok (.istore_n 3, 1) := by decide +kernel
theorem dX2_joined_95 : decode cX2_joined 95 = .ok (.iinc 5 1, 3) := by decide +kernel
theorem dX2_joined_98 : decode cX2_joined 98 = .ok (.goto (-62), 3) := by decide +kernel
theorem dX2_joined_101 : decode cX2_joined 101 = .ok (.iload_n 3, 1) := by decide +kernel
theorem dX2_joined_102 : decode cX2_joined 102 = .ok (.ireturn, 1) := by decide +kernel
theorem dX2_levelOf_0 : decode cX2_levelOf 0 = .ok (.iload_n 0, 1) := by decide +kernel
theorem dX2_levelOf_1 : decode cX2_levelOf 1 = .ok (.lookupswitch 99 #[(37, 97), (38, 91), (42, 97), (43, 95), (45, 95), (47, 97), (60, 93), (61, 93), (62, 93), (124, 91)], 91) := by decide +kernel
theorem dX2_levelOf_92 : decode cX2_levelOf 92 = .ok (.iconst 0, 1) := by decide +kernel
theorem dX2_levelOf_93 : decode cX2_levelOf 93 = .ok (.ireturn, 1) := by decide +kernel
theorem dX2_levelOf_94 : decode cX2_levelOf 94 = .ok (.iconst 1, 1) := by decide +kernel
theorem dX2_levelOf_95 : decode cX2_levelOf 95 = .ok (.ireturn, 1) := by decide +kernel
theorem dX2_levelOf_96 : decode cX2_levelOf 96 = .ok (.iconst 2, 1) := by decide +kernel
theorem dX2_levelOf_97 : decode cX2_levelOf 97 = .ok (.ireturn, 1) := by decide +kernel
theorem dX2_levelOf_98 : decode cX2_levelOf 98 = .ok (.iconst 3, 1) := by decide +kernel
theorem dX2_levelOf_99 : decode cX2_levelOf 99 = .ok (.ireturn, 1) := by decide +kernel
theorem dX2_levelOf_100 : decode cX2_levelOf 100 = .ok (.iconst (-1), 1) := by decide +kernel
theorem dX2_levelOf_101 : decode cX2_levelOf 101 = .ok (.ireturn, 1) := by decide +kernel
theorem dX2_join_0 : decode cX2_join 0 = .ok (.iload_n 0, 1) := by decide +kernel
theorem dX2_join_1 : decode cX2_join 1 = .ok (.lookupswitch 168 #[(38, 83), (42, 152), (43, 144), (45, 148), (47, 156), (60, 111), (61, 122), (62, 133), (124, 97)], 83) := by decide +kernel
theorem dX2_join_84 : decode cX2_join 84 = .ok (.iload_n 1, 1) := by decide +kernel
theorem dX2_join_85 : decode cX2_join 85 = .ok (.ifCond .eq 11, 3) := by decide +kernel
theorem dX2_join_88 : decode cX2_join 88 = .ok (.iload_n 2, 1) := by decide +kernel
theorem dX2_join_89 : decode cX2_join 89 = .ok (.ifCond .eq 7, 3) := by decide +kernel
theorem dX2_join_92 : decode cX2_join 92 = .ok (.iconst 1, 1) := by decide +kernel
theorem dX2_join_93 : decode cX2_join 93 = .ok (.goto 4, 3) := by decide +kernel
theorem dX2_join_96 : decode cX2_join 96 = .ok (.iconst 0, 1) := by decide +kernel
theorem dX2_join_97 : decode cX2_join 97 = .ok (.ireturn, 1) := by decide +kernel
theorem dX2_join_98 : decode cX2_join 98 = .ok (.iload_n 1, 1) := by decide +kernel
theorem dX2_join_99 : decode cX2_join 99 = .ok (.ifCond .ne 7, 3) := by decide +kernel
theorem dX2_join_102 : decode cX2_join 102 = .ok (.iload_n 2, 1) := by decide +kernel
theorem dX2_join_103 : decode cX2_join 103 = .ok (.ifCond .eq 7, 3) := by decide +kernel
theorem dX2_join_106 : decode cX2_join 106 = .ok (.iconst 1, 1) := by decide +kernel
theorem dX2_join_107 : decode cX2_join 107 = .ok (.goto 4, 3) := by decide +kernel
theorem dX2_join_110 : decode cX2_join 110 = .ok (.iconst 0, 1) := by decide +kernel
theorem dX2_join_111 : decode cX2_join 111 = .ok (.ireturn, 1) := by decide +kernel
theorem dX2_join_112 : decode cX2_join 112 = .ok (.iload_n 1, 1) := by decide +kernel
theorem dX2_join_113 : decode cX2_join 113 = .ok (.iload_n 2, 1) := by decide +kernel
theorem dX2_join_114 : decode cX2_join 114 = .ok (.if_icmp .ge 7, 3) := by decide +kernel
theorem dX2_join_117 : decode cX2_join 117 = .ok (.iconst 1, 1) := by decide +kernel
theorem dX2_join_118 : decode cX2_join 118 = .ok (.goto 4, 3) := by decide +kernel
theorem dX2_join_121 : decode cX2_join 121 = .ok (.iconst 0, 1) := by decide +kernel
theorem dX2_join_122 : decode cX2_join 122 = .ok (.ireturn, 1) := by decide +kernel
theorem dX2_join_123 : decode cX2_join 123 = .ok (.iload_n 1, 1) := by decide +kernel
theorem dX2_join_124 : decode cX2_join 124 = .ok (.iload_n 2, 1) := by decide +kernel
theorem dX2_join_125 : decode cX2_join 125 = .ok (.if_icmp .ne 7, 3) := by decide +kernel
theorem dX2_join_128 : decode cX2_join 128 = .ok (.iconst 1, 1) := by decide +kernel
theorem dX2_join_129 : decode cX2_join 129 = .ok (.goto 4, 3) := by decide +kernel
theorem dX2_join_132 : decode cX2_join 132 = .ok (.iconst 0, 1) := by decide +kernel
theorem dX2_join_133 : decode cX2_join 133 = .ok (.ireturn, 1) := by decide +kernel
theorem dX2_join_134 : decode cX2_join 134 = .ok (.iload_n 1, 1) := by decide +kernel
theorem dX2_join_135 : decode cX2_join 135 = .ok (.iload_n 2, 1) := by decide +kernel
theorem dX2_join_136 : decode cX2_join 136 = .ok (.if_icmp .le 7, 3) := by decide +kernel
theorem dX2_join_139 : decode cX2_join 139 = .ok (.iconst 1, 1) := by decide +kernel
theorem dX2_join_140 : decode cX2_join 140 = .ok (.goto 4, 3) := by decide +kernel
theorem dX2_join_143 : decode cX2_join 143 = .ok (.iconst 0, 1) := by decide +kernel
theorem dX2_join_144 : decode cX2_join 144 = .ok (.ireturn, 1) := by decide +kernel
theorem dX2_join_145 : decode cX2_join 145 = .ok (.iload_n 1, 1) := by decide +kernel
theorem dX2_join_146 : decode cX2_join 146 = .ok (.iload_n 2, 1) := by decide +kernel
theorem dX2_join_147 : decode cX2_join 147 = .ok (.iadd, 1) := by decide +kernel
theorem dX2_join_148 : decode cX2_join 148 = .ok (.ireturn, 1) := by decide +kernel
theorem dX2_join_149 : decode cX2_join 149 = .ok (.iload_n 1, 1) := by decide +kernel
theorem dX2_join_150 : decode cX2_join 150 = .ok (.iload_n 2, 1) := by decide +kernel
theorem dX2_join_151 : decode cX2_join 151 = .ok (.isub, 1) := by decide +kernel
theorem dX2_join_152 : decode cX2_join 152 = .ok (.ireturn, 1) := by decide +kernel
theorem dX2_join_153 : decode cX2_join 153 = .ok (.iload_n 1, 1) := by decide +kernel
theorem dX2_join_154 : decode cX2_join 154 = .ok (.iload_n 2, 1) := by decide +kernel
theorem dX2_join_155 : decode cX2_join 155 = .ok (.imul, 1) := by decide +kernel
theorem dX2_join_156 : decode cX2_join 156 = .ok (.ireturn, 1) := by decide +kernel
theorem dX2_join_157 : decode cX2_join 157 = .ok (.iload_n 2, 1) := by decide +kernel
theorem dX2_join_158 : decode cX2_join 158 = .ok (.ifCond .ne 7, 3) := by decide +kernel
theorem dX2_join_161 : decode cX2_join 161 = .ok (.iconst 0, 1) := by decide +kernel
theorem dX2_join_162 : decode cX2_join 162 = .ok (.goto 6, 3) := by decide +kernel
theorem dX2_join_165 : decode cX2_join 165 = .ok (.iload_n 1, 1) := by decide +kernel
theorem dX2_join_166 : decode cX2_join 166 = .ok (.iload_n 2, 1) := by decide +kernel
theorem dX2_join_167 : decode cX2_join 167 = .ok (.idiv, 1) := by decide +kernel
theorem dX2_join_168 : decode cX2_join 168 = .ok (.ireturn, 1) := by decide +kernel
theorem dX2_join_169 : decode cX2_join 169 = .ok (.iload_n 2, 1) := by decide +kernel
theorem dX2_join_170 : decode cX2_join 170 = .ok (.ifCond .ne 7, 3) := by decide +kernel
theorem dX2_join_173 : decode cX2_join 173 = .ok (.iconst 0, 1) := by decide +kernel
theorem dX2_join_174 : decode cX2_join 174 = .ok (.goto 6, 3) := by decide +kernel
theorem dX2_join_177 : decode cX2_join 177 = .ok (.iload_n 1, 1) := by decide +kernel
theorem dX2_join_178 : decode cX2_join 178 = .ok (.iload_n 2, 1) := by decide +kernel
theorem dX2_join_179 : decode cX2_join 179 = .ok (.irem, 1) := by decide +kernel
theorem dX2_join_180 : decode cX2_join 180 = .ok (.ireturn, 1) := by decide +kernel
theorem dX2_unit_0 : decode cX2_unit 0 = .ok (.aload_n 0, 1) := by decide +kernel
theorem dX2_unit_1 : decode cX2_unit 1 = .ok (.invokevirtual 42, 3) := by decide +kernel
theorem dX2_unit_4 : decode cX2_unit 4 = .ok (.istore_n 2, 1) := by decide +kernel
theorem dX2_unit_5 : decode cX2_unit 5 = .ok (.iload_n 2, 1) := by decide +kernel
theorem dX2_unit_6 : decode cX2_unit 6 = .ok (.invokestatic 77, 3) := by decide +kernel
theorem dX2_unit_9 : decode cX2_unit 9 = .ok (.ifCond .eq 8, 3) := by decide +kernel
theorem dX2_unit_12 : decode cX2_unit 12 = .ok (.aload_n 0, 1) := by decide +kernel
theorem dX2_unit_13 : decode cX2_unit 13 = .ok (.invokevirtual 80, 3) := by decide +kernel
theorem dX2_unit_16 : decode cX2_unit 16 = .ok (.ireturn, 1) := by decide +kernel
theorem dX2_unit_17 : decode cX2_unit 17 = .ok (.iload_n 2, 1) := by decide +kernel
theorem dX2_unit_18 : decode cX2_unit 18 = .ok (.iconst (-1), 1) := by decide +kernel
theorem dX2_unit_19 : decode cX2_unit 19 = .ok (.if_icmp .ne 7, 3) := by decide +kernel
theorem dX2_unit_22 : decode cX2_unit 22 = .ok (.iconst (-1), 1) := by decide +kernel
theorem dX2_unit_23 : decode cX2_unit 23 = .ok (.goto 12, 3) := by decide +kernel
theorem dX2_unit_26 : decode cX2_unit 26 = .ok (.aload_n 0, 1) := by decide +kernel
theorem dX2_unit_27 : decode cX2_unit 27 = .ok (.invokevirtual 83, 3) := by decide +kernel
theorem dX2_unit_30 : decode cX2_unit 30 = .ok (.iload_n 2, 1) := by decide +kernel
theorem dX2_unit_31 : decode cX2_unit 31 = .ok (.i2c, 1) := by decide +kernel
theorem dX2_unit_32 : decode cX2_unit 32 = .ok (.invokevirtual 87, 3) := by decide +kernel
theorem dX2_unit_35 : decode cX2_unit 35 = .ok (.istore_n 3, 1) := by decide +kernel
theorem dX2_unit_36 : decode cX2_unit 36 = .ok (.iload_n 3, 1) := by decide +kernel
theorem dX2_unit_37 : decode cX2_unit 37 = .ok (.ifCond .lt 41, 3) := by decide +kernel
theorem dX2_unit_40 : decode cX2_unit 40 = .ok (.aload_n 0, 1) := by decide +kernel
theorem dX2_unit_41 : decode cX2_unit 41 = .ok (.dup, 1) := by decide +kernel
theorem dX2_unit_42 : decode cX2_unit 42 = .ok (.getfield 28, 3) := by decide +kernel
theorem dX2_unit_45 : decode cX2_unit 45 = .ok (.iconst 1, 1) := by decide +kernel
theorem dX2_unit_46 : decode cX2_unit 46 = .ok (.iadd, 1) := by decide +kernel
theorem dX2_unit_47 : decode cX2_unit 47 = .ok (.putfield 28, 3) := by decide +kernel
theorem dX2_unit_50 : decode cX2_unit 50 = .ok (.iload_n 3, 1) := by decide +kernel
theorem dX2_unit_51 : decode cX2_unit 51 = .ok (.ifCond .ne 10, 3) := by decide +kernel
theorem dX2_unit_54 : decode cX2_unit 54 = .ok (.aload_n 0, 1) := by decide +kernel
theorem dX2_unit_55 : decode cX2_unit 55 = .ok (.getfield 19, 3) := by decide +kernel
theorem dX2_unit_58 : decode cX2_unit 58 = .ok (.goto 19, 3) := by decide +kernel
theorem dX2_unit_61 : decode cX2_unit 61 = .ok (.iload_n 3, 1) := by decide +kernel
theorem dX2_unit_62 : decode cX2_unit 62 = .ok (.iconst 1, 1) := by decide +kernel
theorem dX2_unit_63 : decode cX2_unit 63 = .ok (.if_icmp .ne 10, 3) := by decide +kernel
theorem dX2_unit_66 : decode cX2_unit 66 = .ok (.aload_n 0, 1) := by decide +kernel
theorem dX2_unit_67 : decode cX2_unit 67 = .ok (.getfield 22, 3) := by decide +kernel
theorem dX2_unit_70 : decode cX2_unit 70 = .ok (.goto 7, 3) := by decide +kernel
theorem dX2_unit_73 : decode cX2_unit 73 = .ok (.aload_n 0, 1) := by decide +kernel
theorem dX2_unit_74 : decode cX2_unit 74 = .ok (.getfield 25, 3) := by decide +kernel
theorem dX2_unit_77 : decode cX2_unit 77 = .ok (.ireturn, 1) := by decide +kernel
theorem dX2_unit_78 : decode cX2_unit 78 = .ok (.iload_n 1, 1) := by decide +kernel
theorem dX2_unit_79 : decode cX2_unit 79 = .ok (.iconst 5, 1) := by decide +kernel
theorem dX2_unit_80 : decode cX2_unit 80 = .ok (.if_icmp .ge 15, 3) := by decide +kernel
theorem dX2_unit_83 : decode cX2_unit 83 = .ok (.iload_n 2, 1) := by decide +kernel
theorem dX2_unit_84 : decode cX2_unit 84 = .ok (.bipush 45, 2) := by decide +kernel
theorem dX2_unit_86 : decode cX2_unit 86 = .ok (.if_icmp .eq 16, 3) := by decide +kernel
theorem dX2_unit_89 : decode cX2_unit 89 = .ok (.iload_n 2, 1) := by decide +kernel
theorem dX2_unit_90 : decode cX2_unit 90 = .ok (.bipush 40, 2) := by decide +kernel
theorem dX2_unit_92 : decode cX2_unit 92 = .ok (.if_icmp .eq 10, 3) := by decide +kernel
theorem dX2_unit_95 : decode cX2_unit 95 = .ok (.aload_n 0, 1) := by decide +kernel
theorem dX2_unit_96 : decode cX2_unit 96 = .ok (.iconst 1, 1) := by decide +kernel
theorem dX2_unit_97 : decode cX2_unit 97 = .ok (.putfield 34, 3) := by decide +kernel
theorem dX2_unit_100 : decode cX2_unit 100 = .ok (.iconst 0, 1) := by decide +kernel
theorem dX2_unit_101 : decode cX2_unit 101 = .ok (.ireturn, 1) := by decide +kernel
theorem dX2_unit_102 : decode cX2_unit 102 = .ok (.aload_n 0, 1) := by decide +kernel
theorem dX2_unit_103 : decode cX2_unit 103 = .ok (.dup, 1) := by decide +kernel
theorem dX2_unit_104 : decode cX2_unit 104 = .ok (.getfield 28, 3) := by decide +kernel
theorem dX2_unit_107 : decode cX2_unit 107 = .ok (.iconst 1, 1) := by decide +kernel
theorem dX2_unit_108 : decode cX2_unit 108 = .ok (.iadd, 1) := by decide +kernel
theorem dX2_unit_109 : decode cX2_unit 109 = .ok (.putfield 28, 3) := by decide +kernel
theorem dX2_unit_112 : decode cX2_unit 112 = .ok (.iload_n 2, 1) := by decide +kernel
theorem dX2_unit_113 : decode cX2_unit 113 = .ok (.bipush 45, 2) := by decide +kernel
theorem dX2_unit_115 : decode cX2_unit 115 = .ok (.if_icmp .ne 22, 3) := by decide +kernel
theorem dX2_unit_118 : decode cX2_unit 118 = .ok (.aload_n 0, 1) := by decide +kernel
theorem dX2_unit_119 : decode cX2_unit 119 = .ok (.dup, 1) := by decide +kernel
theorem dX2_unit_120 : decode cX2_unit 120 = .ok (.getfield 31, 3) := by decide +kernel
theorem dX2_unit_123 : decode cX2_unit 123 = .ok (.iconst 1, 1) := by decide +kernel
theorem dX2_unit_124 : decode cX2_unit 124 = .ok (.iadd, 1) := by decide +kernel
theorem dX2_unit_125 : decode cX2_unit 125 = .ok (.putfield 31, 3) := by decide +kernel
theorem dX2_unit_128 : decode cX2_unit 128 = .ok (.aload_n 0, 1) := by decide +kernel
theorem dX2_unit_129 : decode cX2_unit 129 = .ok (.iload_n 1, 1) := by decide +kernel
theorem dX2_unit_130 : decode cX2_unit 130 = .ok (.iconst 1, 1) := by decide +kernel
theorem dX2_unit_131 : decode cX2_unit 131 = .ok (.iadd, 1) := by decide +kernel
theorem dX2_unit_132 : decode cX2_unit 132 = .ok (.invokevirtual 67, 3) := by decide +kernel
theorem dX2_unit_135 : decode cX2_unit 135 = .ok (.ineg, 1) := by decide +kernel
theorem dX2_unit_136 : decode cX2_unit 136 = .ok (.ireturn, 1) := by decide +kernel
theorem dX2_unit_137 : decode cX2_unit 137 = .ok (.aload_n 0, 1) := by decide +kernel
theorem dX2_unit_138 : decode cX2_unit 138 = .ok (.iload_n 1, 1) := by decide +kernel
theorem dX2_unit_139 : decode cX2_unit 139 = .ok (.iconst 1, 1) := by decide +kernel
theorem dX2_unit_140 : decode cX2_unit 140 = .ok (.iadd, 1) := by decide +kernel
theorem dX2_unit_141 : decode cX2_unit 141 = .ok (.invokevirtual 38, 3) := by decide +kernel
theorem dX2_unit_144 : decode cX2_unit 144 = .ok (.istore 4, 2) := by decide +kernel
theorem dX2_unit_146 : decode cX2_unit 146 = .ok (.aload_n 0, 1) := by decide +kernel
theorem dX2_unit_147 : decode cX2_unit 147 = .ok (.bipush 41, 2) := by decide +kernel
theorem dX2_unit_149 : decode cX2_unit 149 = .ok (.invokevirtual 63, 3) := by decide +kernel
theorem dX2_unit_152 : decode cX2_unit 152 = .ok (.iload 4, 2) := by decide +kernel
theorem dX2_unit_154 : decode cX2_unit 154 = .ok (.ireturn, 1) := by decide +kernel
theorem dX2_isDigit_0 : decode cX2_isDigit 0 = .ok (.iload_n 0, 1) := by decide +kernel
theorem dX2_isDigit_1 : decode cX2_isDigit 1 = .ok (.bipush 48, 2) := by decide +kernel
theorem dX2_isDigit_3 : decode cX2_isDigit 3 = .ok (.if_icmp .lt 13, 3) := by decide +kernel
theorem dX2_isDigit_6 : decode cX2_isDigit 6 = .ok (.iload_n 0, 1) := by decide +kernel
theorem dX2_isDigit_7 : decode cX2_isDigit 7 = .ok (.bipush 57, 2) := by decide +kernel
theorem dX2_isDigit_9 : decode cX2_isDigit 9 = .ok (.if_icmp .gt 7, 3) := by decide +kernel
theorem dX2_isDigit_12 : decode cX2_isDigit 12 = .ok (.iconst 1, 1) := by decide +kernel
theorem dX2_isDigit_13 : decode cX2_isDigit 13 = .ok (.goto 4, 3) := by decide +kernel
theorem dX2_isDigit_16 : decode cX2_isDigit 16 = .ok (.iconst 0, 1) := by decide +kernel
theorem dX2_isDigit_17 : decode cX2_isDigit 17 = .ok (.ireturn, 1) := by decide +kernel
theorem dX2_number_0 : decode cX2_number 0 = .ok (.iconst 0, 1) := by decide +kernel
theorem dX2_number_1 : decode cX2_number 1 = .ok (.istore_n 1, 1) := by decide +kernel
theorem dX2_number_2 : decode cX2_number 2 = .ok (.iconst 0, 1) := by decide +kernel
theorem dX2_number_3 : decode cX2_number 3 = .ok (.istore_n 2, 1) := by decide +kernel
theorem dX2_number_4 : decode cX2_number 4 = .ok (.iload_n 2, 1) := by decide +kernel
theorem dX2_number_5 : decode cX2_number 5 = .ok (.iconst 4, 1) := by decide +kernel
theorem dX2_number_6 : decode cX2_number 6 = .ok (.if_icmp .ge 42, 3) := by decide +kernel
theorem dX2_number_9 : decode cX2_number 9 = .ok (.aload_n 0, 1) := by decide +kernel
theorem dX2_number_10 : decode cX2_number 10 = .ok (.invokevirtual 42, 3) := by decide +kernel
theorem dX2_number_13 : decode cX2_number 13 = .ok (.invokestatic 77, 3) := by decide +kernel
theorem dX2_number_16 : decode cX2_number 16 = .ok (.ifCond .eq 32, 3) := by decide +kernel
theorem dX2_number_19 : decode cX2_number 19 = .ok (.iload_n 1, 1) := by decide +kernel
theorem dX2_number_20 : decode cX2_number 20 = .ok (.bipush 10, 2) := by decide +kernel
theorem dX2_number_22 : decode cX2_number 22 = .ok (.imul, 1) := by decide +kernel
theorem dX2_number_23 : decode cX2_number 23 = .ok (.aload_n 0, 1) := by decide +kernel
theorem dX2_number_24 : decode cX2_number 24 = .ok (.invokevirtual 42, 3) := by decide +kernel
theorem dX2_number_27 : decode cX2_number 27 = .ok (.iadd, 1) := by decide +kernel
theorem dX2_number_28 : decode cX2_number 28 = .ok (.bipush 48, 2) := by decide +kernel
theorem dX2_number_30 : decode cX2_number 30 = .ok (.isub, 1) := by decide +kernel
theorem dX2_number_31 : decode cX2_number 31 = .ok (.istore_n 1, 1) := by decide +kernel
theorem dX2_number_32 : decode cX2_number 32 = .ok (.aload_n 0, 1) := by decide +kernel
theorem dX2_number_33 : decode cX2_number 33 = .ok (.dup, 1) := by decide +kernel
theorem dX2_number_34 : decode cX2_number 34 = .ok (.getfield 28, 3) := by decide +kernel
theorem dX2_number_37 : decode cX2_number 37 = .ok (.iconst 1, 1) := by decide +kernel
theorem dX2_number_38 : decode cX2_number 38 = .ok (.iadd, 1) := by decide +kernel
theorem dX2_number_39 : decode cX2_number 39 = .ok (.putfield 28, 3) := by decide +kernel
theorem dX2_number_42 : decode cX2_number 42 = .ok (.iinc 2 1, 3) := by decide +kernel
theorem dX2_number_45 : decode cX2_number 45 = .ok (.goto (-41), 3) := by decide +kernel
theorem dX2_number_48 : decode cX2_number 48 = .ok (.iload_n 1, 1) := by decide +kernel
theorem dX2_number_49 : decode cX2_number 49 = .ok (.ireturn, 1) := by decide +kernel
theorem dX2_names_0 : decode cX2_names 0 = .ok (.aload_n 0, 1) := by decide +kernel
theorem dX2_names_1 : decode cX2_names 1 = .ok (.getfield 15, 3) := by decide +kernel
theorem dX2_names_4 : decode cX2_names 4 = .ok (.lookupswitch 34 #[(0, 28), (1, 31)], 28) := by decide +kernel
theorem dX2_names_32 : decode cX2_names 32 = .ok (.ldc 92, 2) := by decide +kernel
theorem dX2_names_34 : decode cX2_names 34 = .ok (.areturn, 1) := by decide +kernel
theorem dX2_names_35 : decode cX2_names 35 = .ok (.ldc 94, 2) := by decide +kernel
theorem dX2_names_37 : decode cX2_names 37 = .ok (.areturn, 1) := by decide +kernel
theorem dX2_names_38 : decode cX2_names 38 = .ok (.ldc 96, 2) := by decide +kernel
theorem dX2_names_40 : decode cX2_names 40 = .ok (.areturn, 1) := by decide +kernel
theorem dX3_init_0 : decode cX3_init 0 = .ok (.aload_n 0, 1) := by decide +kernel
theorem dX3_init_1 : decode cX3_init 1 = .ok (.invokespecial 1, 3) := by decide +kernel
theorem dX3_init_4 : decode cX3_init 4 = .ok (.aload_n 0, 1) := by decide +kernel
theorem dX3_init_5 : decode cX3_init 5 = .ok (.bipush 24, 2) := by decide +kernel
theorem dX3_init_7 : decode cX3_init 7 = .ok (.newarray .int, 2) := by decide +kernel
theorem dX3_init_9 : decode cX3_init 9 = .ok (.putfield 9, 3) := by decide +kernel
theorem dX3_init_12 : decode cX3_init 12 = .ok (.aload_n 0, 1) := by decide +kernel
theorem dX3_init_13 : decode cX3_init 13 = .ok (.iconst 0, 1) := by decide +kernel
theorem dX3_init_14 : decode cX3_init 14 = .ok (.putfield 13, 3) := by decide +kernel
theorem dX3_init_17 : decode cX3_init 17 = .ok (.aload_n 0, 1) := by decide +kernel
theorem dX3_init_18 : decode cX3_init 18 = .ok (.iconst 0, 1) := by decide +kernel
theorem dX3_init_19 : decode cX3_init 19 = .ok (.putfield 17, 3) := by decide +kernel
theorem dX3_init_22 : decode cX3_init 22 = .ok (.return_, 1) := by decide +kernel
theorem dX3_isWidth_0 : decode cX3_isWidth 0 = .ok (.iload_n 0, 1) := by decide +kernel
theorem dX3_isWidth_1 : decode cX3_isWidth 1 = .ok (.ifCond .eq 21, 3) := by decide +kernel
theorem dX3_isWidth_4 : decode cX3_isWidth 4 = .ok (.iload_n 0, 1) := by decide +kernel
theorem dX3_isWidth_5 : decode cX3_isWidth 5 = .ok (.bipush 8, 2) := by decide +kernel
theorem dX3_isWidth_7 : decode cX3_isWidth 7 = .ok (.if_icmp .eq 15, 3) := by decide +kernel
theorem dX3_isWidth_10 : decode cX3_isWidth 10 = .ok (.iload_n 0, 1) := by decide +kernel
theorem dX3_isWidth_11 : decode cX3_isWidth 11 = .ok (.bipush 16, 2) := by decide +kernel
theorem dX3_isWidth_13 : decode cX3_isWidth 13 = .ok (.if_icmp .eq 9, 3) := by decide +kernel
theorem dX3_isWidth_16 : decode cX3_isWidth 16 = .ok (.iload_n 0, 1) := by decide +kernel
theorem dX3_isWidth_17 : decode cX3_isWidth 17 = .ok (.bipush 32, 2) := by decide +kernel
theorem dX3_isWidth_19 : decode cX3_isWidth 19 = .ok (.if_icmp .ne 7, 3) := by decide +kernel
theorem dX3_isWidth_22 : decode cX3_isWidth 22 = .ok (.iconst 1, 1) := by decide +kernel
theorem dX3_isWidth_23 : decode cX3_isWidth 23 = .ok (.goto 4, 3) := by decide +kernel
theorem dX3_isWidth_26 : decode cX3_isWidth 26 = .ok (.iconst 0, 1) := by decide +kernel
theorem dX3_isWidth_27 : decode cX3_isWidth 27 = .ok (.ireturn, 1) := by decide +kernel
theorem dX3_isMissing_0 : decode cX3_isMissing 0 = .ok (.aload_n 0, 1) := by decide +kernel
theorem dX3_isMissing_1 : decode cX3_isMissing 1 = .ok (.getfield 13, 3) := by decide +kernel
theorem dX3_isMissing_4 : decode cX3_isMissing 4 = .ok (.ifCond .ne 7, 3) := by decide +kernel
theorem dX3_isMissing_7 : decode cX3_isMissing 7 = .ok (.iconst 1, 1) := by decide +kernel
theorem dX3_isMissing_8 : decode cX3_isMissing 8 = .ok (.goto 4, 3) := by decide +kernel
theorem dX3_isMissing_11 : decode cX3_isMissing 11 = .ok (.iconst 0, 1) := by decide +kernel
theorem dX3_isMissing_12 : decode cX3_isMissing 12 = .ok (.ireturn, 1) := by decide +kernel
theorem dX3_become_0 : decode cX3_become 0 = .ok (.aload_n 0, 1) := by decide +kernel
theorem dX3_become_1 : decode cX3_become 1 = .ok (.iload_n 1, 1) := by decide +kernel
theorem dX3_become_2 : decode cX3_become 2 = .ok (.putfield 13, 3) := by decide +kernel
theorem dX3_become_5 : decode cX3_become 5 = .ok (.aload_n 0, 1) := by decide +kernel
theorem dX3_become_6 : decode cX3_become 6 = .ok (.iconst 0, 1) := by decide +kernel
theorem dX3_become_7 : decode cX3_become 7 = .ok (.bipush 24, 2) := by decide +kernel
theorem dX3_become_9 : decode cX3_become 9 = .ok (.iload_n 2, 1) := by decide +kernel
theorem dX3_become_10 : decode cX3_become 10 = .ok (.invokestatic 20, 3) := by decide +kernel
theorem dX3_become_13 : decode cX3_become 13 = .ok (.invokestatic 26, 3) := by decide +kernel
theorem dX3_become_16 : decode cX3_become 16 = .ok (.putfield 17, 3) := by decide +kernel
theorem dX3_become_19 : decode cX3_become 19 = .ok (.iconst 0, 1) := by decide +kernel
theorem dX3_become_20 : decode cX3_become 20 = .ok (.istore_n 3, 1) := by decide +kernel
theorem dX3_become_21 : decode cX3_become 21 = .ok (.iload_n 3, 1) := by decide +kernel
theorem dX3_become_22 : decode cX3_become 22 = .ok (.bipush 24, 2) := by decide +kernel
theorem dX3_become_24 : decode cX3_become 24 = .ok (.if_icmp .ge 16, 3) := by decide +kernel
theorem dX3_become_27 : decode cX3_become 27 = .ok (.aload_n 0, 1) := by decide +kernel
theorem dX3_become_28 : decode cX3_become 28 = .ok (.getfield 9, 3) := by decide +kernel
theorem dX3_become_31 : decode cX3_become 31 = .ok (.iload_n 3, 1) := by decide +kernel
theorem dX3_become_32 : decode cX3_become 32 = .ok (.iconst 0, 1) := by decide +kernel
theorem dX3_become_33 : decode cX3_become 33 = .ok (.iastore, 1) := by decide +kernel
theorem dX3_become_34 : decode cX3_become 34 = .ok (.iinc 3 1, 3) := by decide +kernel
theorem dX3_become_37 : decode cX3_become 37 = .ok (.goto (-16), 3) := by decide +kernel
theorem dX3_become_40 : decode cX3_become 40 = .ok (.return_, 1) := by decide +kernel
theorem dX3_holds_0 : decode cX3_holds 0 = .ok (.iload_n 1, 1) := by decide +kernel
theorem dX3_holds_1 : decode cX3_holds 1 = .ok (.ifCond .lt 29, 3) := by decide +kernel
theorem dX3_holds_4 : decode cX3_holds 4 = .ok (.iload_n 2, 1) := by decide +kernel
theorem dX3_holds_5 : decode cX3_holds 5 = .ok (.ifCond .lt 25, 3) := by decide +kernel
theorem dX3_holds_8 : decode cX3_holds 8 = .ok (.iload_n 2, 1) := by decide +kernel
theorem dX3_holds_9 : decode cX3_holds 9 = .ok (.aload_n 0, 1) := by decide +kernel
theorem dX3_holds_10 : decode cX3_holds 10 = .ok (.getfield 17, 3) := by decide +kernel
theorem dX3_holds_13 : decode cX3_holds 13 = .ok (.if_icmp .gt 17, 3) := by decide +kernel
theorem dX3_holds_16 : decode cX3_holds 16 = .ok (.iload_n 1, 1) := by decide +kernel
theorem dX3_holds_17 : decode cX3_holds 17 = .ok (.aload_n 0, 1) := by decide +kernel
theorem dX3_holds_18 : decode cX3_holds 18 = .ok (.getfield 17, 3) := by decide +kernel
theorem dX3_holds_21 : decode cX3_holds 21 = .ok (.iload_n 2, 1) := by decide +kernel
theorem dX3_holds_22 : decode cX3_holds 22 = .ok (.isub, 1) := by decide +kernel
theorem dX3_holds_23 : decode cX3_holds 23 = .ok (.if_icmp .gt 7, 3) := by decide +kernel
theorem dX3_holds_26 : decode cX3_holds 26 = .ok (.iconst 1, 1) := by decide +kernel
theorem dX3_holds_27 : decode cX3_holds 27 = .ok (.goto 4, 3) := by decide +kernel
theorem dX3_holds_30 : decode cX3_holds 30 = .ok (.iconst 0, 1) := by decide +kernel
theorem dX3_holds_31 : decode cX3_holds 31 = .ok (.ireturn, 1) := by decide +kernel
theorem dX3_at_0 : decode cX3_at 0 = .ok (.aload_n 0, 1) := by decide +kernel
theorem dX3_at_1 : decode cX3_at 1 = .ok (.iload_n 1, 1) := by decide +kernel
theorem dX3_at_2 : decode cX3_at 2 = .ok (.iconst 1, 1) := by decide +kernel
theorem dX3_at_3 : decode cX3_at 3 = .ok (.invokevirtual 29, 3) := by decide +kernel
theorem dX3_at_6 : decode cX3_at 6 = .ok (.ifCond .eq 12, 3) := by decide +kernel
theorem dX3_at_9 : decode cX3_at 9 = .ok (.aload_n 0, 1) := by decide +kernel
theorem dX3_at_10 : decode cX3_at 10 = .ok (.getfield 9, 3) := by decide +kernel
theorem dX3_at_13 : decode cX3_at 13 = .ok (.iload_n 1, 1) := by decide +kernel
theorem dX3_at_14 : decode cX3_at 14 = .ok (.iaload, 1) := by decide +kernel
theorem dX3_at_15 : decode cX3_at 15 = .ok (.goto 4, 3) := by decide +kernel
theorem dX3_at_18 : decode cX3_at 18 = .ok (.iconst 0, 1) := by decide +kernel
theorem dX3_at_19 : decode cX3_at 19 = .ok (.ireturn, 1) := by decide +kernel
theorem dX3_set_0 : decode cX3_set 0 = .ok (.aload_n 0, 1) := by decide +kernel
theorem dX3_set_1 : decode cX3_set 1 = .ok (.iload_n 1, 1) := by decide +kernel
theorem dX3_set_2 : decode cX3_set 2 = .ok (.iconst 1, 1) := by decide +kernel
theorem dX3_set_3 : decode cX3_set 3 = .ok (.invokevirtual 29, 3) := by decide +kernel
theorem dX3_set_6 : decode cX3_set 6 = .ok (.ifCond .eq 38, 3) := by decide +kernel
theorem dX3_set_9 : decode cX3_set 9 = .ok (.aload_n 0, 1) := by decide +kernel
theorem dX3_set_10 : decode cX3_set 10 = .ok (.getfield 9, 3) := by decide +kernel
theorem dX3_set_13 : decode cX3_set 13 = .ok (.iload_n 1, 1) := by decide +kernel
theorem dX3_set_14 : decode cX3_set 14 = .ok (.aload_n 0, 1) := by decide +kernel
theorem dX3_set_15 : decode cX3_set 15 = .ok (.getfield 13, 3) := by decide +kernel
theorem dX3_set_18 : decode cX3_set 18 = .ok (.bipush 8, 2) := by decide +kernel
theorem dX3_set_20 : decode cX3_set 20 = .ok (.if_icmp .ne 8, 3) := by decide +kernel
theorem dX3_set_23 : decode cX3_set 23 = .ok (.iload_n 2, 1) := by decide +kernel
theorem dX3_set_24 : decode cX3_set 24 = .ok (.i2b, 1) := by decide +kernel
theorem dX3_set_25 : decode cX3_set 25 = .ok (.goto 18, 3) := by decide +kernel
theorem dX3_set_28 : decode cX3_set 28 = .ok (.aload_n 0, 1) := by decide +kernel
theorem dX3_set_29 : decode cX3_set 29 = .ok (.getfield 13, 3) := by decide +kernel
theorem dX3_set_32 : decode cX3_set 32 = .ok (.bipush 16, 2) := by decide +kernel
theorem dX3_set_34 : decode cX3_set 34 = .ok (.if_icmp .ne 8, 3) := by decide +kernel
theorem dX3_set_37 : decode cX3_set 37 = .ok (.iload_n 2, 1) := by decide +kernel
theorem dX3_set_38 : decode cX3_set 38 = .ok (.i2s, 1) := by decide +kernel
theorem dX3_set_39 : decode cX3_set 39 = .ok (.goto 4, 3) := by decide +kernel
theorem dX3_set_42 : decode cX3_set 42 = .ok (.iload_n 2, 1) := by decide +kernel
theorem dX3_set_43 : decode cX3_set 43 = .ok (.iastore, 1) := by decide +kernel
theorem dX3_set_44 : decode cX3_set 44 = .ok (.return_, 1) := by decide +kernel
theorem dX4_init_0 : decode cX4_init 0 = .ok (.aload_n 0, 1) := by decide +kernel
theorem dX4_init_1 : decode cX4_init 1 = .ok (.invokespecial 3, 3) := by decide +kernel
theorem dX4_init_4 : decode cX4_init 4 = .ok (.aload_n 0, 1) := by decide +kernel
theorem dX4_init_5 : decode cX4_init 5 = .ok (.new 9, 3) := by decide +kernel
theorem dX4_init_8 : decode cX4_init 8 = .ok (.dup, 1) := by decide +kernel
theorem dX4_init_9 : decode cX4_init 9 = .ok (.iconst 3, 1) := by decide +kernel
theorem dX4_init_10 : decode cX4_init 10 = .ok (.iconst 4, 1) := by decide +kernel
theorem dX4_init_11 : decode cX4_init 11 = .ok (.invokespecial 11, 3) := by decide +kernel
theorem dX4_init_14 : decode cX4_init 14 = .ok (.putfield 14, 3) := by decide +kernel
theorem dX4_init_17 : decode cX4_init 17 = .ok (.aload_n 0, 1) := by decide +kernel
theorem dX4_init_18 : decode cX4_init 18 = .ok (.new 9, 3) := by decide +kernel
theorem dX4_init_21 : decode cX4_init 21 = .ok (.dup, 1) := by decide +kernel
theorem dX4_init_22 : decode cX4_init 22 = .ok (.iconst 5, 1) := by decide +kernel
theorem dX4_init_23 : decode cX4_init 23 = .ok (.bipush 12, 2) := by decide +kernel
theorem dX4_init_25 : decode cX4_init 25 = .ok (.invokespecial 11, 3) := by decide +kernel
theorem dX4_init_28 : decode cX4_init 28 = .ok (.putfield 20, 3) := by decide +kernel
theorem dX4_init_31 : decode cX4_init 31 = .ok (.aload_n 0, 1) := by decide +kernel
theorem dX4_init_32 : decode cX4_init 32 = .ok (.new 9, 3) := by decide +kernel
theorem dX4_init_35 : decode cX4_init 35 = .ok (.dup, 1) := by decide +kernel
theorem dX4_init_36 : decode cX4_init 36 = .ok (.iconst 5, 1) := by decide +kernel
theorem dX4_init_37 : decode cX4_init 37 = .ok (.bipush 24, 2) := by decide +kernel
theorem dX4_init_39 : decode cX4_init 39 = .ok (.invokespecial 11, 3) := by decide +kernel
theorem dX4_init_42 : decode cX4_init 42 = .ok (.putfield 23, 3) := by decide +kernel
theorem dX4_init_45 : decode cX4_init 45 = .ok (.aload_n 0, 1) := by decide +kernel
theorem dX4_init_46 : decode cX4_init 46 = .ok (.sipush 576, 3) := by decide +kernel
theorem dX4_init_49 : decode cX4_init 49 = .ok (.newarray .int, 2) := by decide +kernel
theorem dX4_init_51 : decode cX4_init 51 = .ok (.putfield 26, 3) := by decide +kernel
theorem dX4_init_54 : decode cX4_init 54 = .ok (.aload_n 0, 1) := by decide +kernel
theorem dX4_init_55 : decode cX4_init 55 = .ok (.new 9, 3) := by decide +kernel
theorem dX4_init_58 : decode cX4_init 58 = .ok (.dup, 1) := by decide +kernel
theorem dX4_init_59 : decode cX4_init 59 = .ok (.iconst 3, 1) := by decide +kernel
theorem dX4_init_60 : decode cX4_init 60 = .ok (.bipush 20, 2) := by decide +kernel
theorem dX4_init_62 : decode cX4_init 62 = .ok (.invokespecial 11, 3) := by decide +kernel
theorem dX4_init_65 : decode cX4_init 65 = .ok (.putfield 30, 3) := by decide +kernel
theorem dX4_init_68 : decode cX4_init 68 = .ok (.aload_n 0, 1) := by decide +kernel
theorem dX4_init_69 : decode cX4_init 69 = .ok (.new 9, 3) := by decide +kernel
theorem dX4_init_72 : decode cX4_init 72 = .ok (.dup, 1) := by decide +kernel
theorem dX4_init_73 : decode cX4_init 73 = .ok (.iconst 4, 1) := by decide +kernel
theorem dX4_init_74 : decode cX4_init 74 = .ok (.bipush 30, 2) := by decide +kernel
theorem dX4_init_76 : decode cX4_init 76 = .ok (.invokespecial 11, 3) := by decide +kernel
theorem dX4_init_79 : decode cX4_init 79 = .ok (.putfield 33, 3) := by decide +kernel
theorem dX4_init_82 : decode cX4_init 82 = .ok (.aload_n 0, 1) := by decide +kernel
theorem dX4_init_83 : decode cX4_init 83 = .ok (.new 9, 3) := by decide +kernel
theorem dX4_init_86 : decode cX4_init 86 = .ok (.dup, 1) := by decide +kernel
theorem dX4_init_87 : decode cX4_init 87 = .ok (.iconst 2, 1) := by decide +kernel
theorem dX4_init_88 : decode cX4_init 88 = .ok (.bipush 8, 2) := by decide +kernel
theorem dX4_init_90 : decode cX4_init 90 = .ok (.invokespecial 11, 3) := by decide +kernel
theorem dX4_init_93 : decode cX4_init 93 = .ok (.putfield 36, 3) := by decide +kernel
theorem dX4_init_96 : decode cX4_init 96 = .ok (.aload_n 0, 1) := by decide +kernel
theorem dX4_init_97 : decode cX4_init 97 = .ok (.new 9, 3) := by decide +kernel
theorem dX4_init_100 : decode cX4_init 100 = .ok (.dup, 1) := by decide +kernel
theorem dX4_init_101 : decode cX4_init 101 = .ok (.iconst 1, 1) := by decide +kernel
theorem dX4_init_102 : decode cX4_init 102 = .ok (.bipush 24, 2) := by decide +kernel
theorem dX4_init_104 : decode cX4_init 104 = .ok (.invokespecial 11, 3) := by decide +kernel
theorem dX4_init_107 : decode cX4_init 107 = .ok (.putfield 39, 3) := by decide +kernel
theorem dX4_init_110 : decode cX4_init 110 = .ok (.aload_n 0, 1) := by decide +kernel
theorem dX4_init_111 : decode cX4_init 111 = .ok (.new 42, 3) := by decide +kernel
theorem dX4_init_114 : decode cX4_init 114 = .ok (.dup, 1) := by decide +kernel
theorem dX4_init_115 : decode cX4_init 115 = .ok (.invokespecial 44, 3) := by decide +kernel
theorem dX4_init_118 : decode cX4_init 118 = .ok (.putfield 45, 3) := by decide +kernel
theorem dX4_init_121 : decode cX4_init 121 = .ok (.aload_n 0, 1) := by decide +kernel
theorem dX4_init_122 : decode cX4_init 122 = .ok (.iconst 3, 1) := by decide +kernel
theorem dX4_init_123 : decode cX4_init 123 = .ok (.anewarray 42, 3) := by decide +kernel
theorem dX4_init_126 : decode cX4_init 126 = .ok (.putfield 49, 3) := by decide +kernel
theorem dX4_init_129 : decode cX4_init 129 = .ok (.aload_n 0, 1) := by decide +kernel
theorem dX4_init_130 : decode cX4_init 130 = .ok (.iconst 1, 1) := by decide +kernel
theorem dX4_init_131 : decode cX4_init 131 = .ok (.putfield 53, 3) := by decide +kernel
theorem dX4_init_134 : decode cX4_init 134 = .ok (.iconst 0, 1) := by decide +kernel
theorem dX4_init_135 : decode cX4_init 135 = .ok (.istore_n 1, 1) := by decide +kernel
theorem dX4_init_136 : decode cX4_init 136 = .ok (.iload_n 1, 1) := by decide +kernel
theorem dX4_init_137 : decode cX4_init 137 = .ok (.iconst 4, 1) := by decide +kernel
theorem dX4_init_138 : decode cX4_init 138 = .ok (.if_icmp .ge 25, 3) := by decide +kernel
theorem dX4_init_141 : decode cX4_init 141 = .ok (.aload_n 0, 1) := by decide +kernel
theorem dX4_init_142 : decode cX4_init 142 = .ok (.getfield 14, 3) := by decide +kernel
theorem dX4_init_145 : decode cX4_init 145 = .ok (.aload_n 0, 1) := by decide +kernel
theorem dX4_init_146 : decode cX4_init 146 = .ok (.getfield 14, 3) := by decide +kernel
theorem dX4_init_149 : decode cX4_init 149 = .ok (.invokevirtual 57, 3) := by decide +kernel
theorem dX4_init_152 : decode cX4_init 152 = .ok (.iconst 0, 1) := by decide +kernel
theorem dX4_init_153 : decode cX4_init 153 = .ok (.iconst 1, 1) := by decide +kernel
theorem dX4_init_154 : decode cX4_init 154 = .ok (.invokevirtual 61, 3) := by decide +kernel
theorem dX4_init_157 : decode cX4_init 157 = .ok (.iinc 1 1, 3) := by decide +kernel
theorem dX4_init_160 : decode cX4_init 160 = .ok (.goto (-24), 3) := by decide +kernel
theorem dX4_init_163 : decode cX4_init 163 = .ok (.iconst 0, 1) := by decide +kernel
theorem dX4_init_164 : decode cX4_init 164 = .ok (.istore_n 1, 1) := by decide +kernel
theorem dX4_init_165 : decode cX4_init 165 = .ok (.iload_n 1, 1) := by decide +kernel
theorem dX4_init_166 : decode cX4_init 166 = .ok (.aload_n 0, 1) := by decide +kernel
theorem dX4_init_167 : decode cX4_init 167 = .ok (.getfield 49, 3) := by decide +kernel
theorem dX4_init_170 : decode cX4_init 170 = .ok (.arraylength, 1) := by decide +kernel
theorem dX4_init_171 : decode cX4_init 171 = .ok (.if_icmp .ge 22, 3) := by decide +kernel
theorem dX4_init_174 : decode cX4_init 174 = .ok (.aload_n 0, 1) := by decide +kernel
theorem dX4_init_175 : decode cX4_init 175 = .ok (.getfield 49, 3) := by decide +kernel
theorem dX4_init_178 : decode cX4_init 178 = .ok (.iload_n 1, 1) := by decide +kernel
theorem dX4_init_179 : decode cX4_init 179 = .ok (.new 42, 3) := by decide +kernel
theorem dX4_init_182 : decode cX4_init 182 = .ok (.dup, 1) := by decide +kernel
theorem dX4_init_183 : decode cX4_init 183 = .ok (.invokespecial 44, 3) := by decide +kernel
theorem dX4_init_186 : decode cX4_init 186 = .ok (.aastore, 1) := by decide +kernel
theorem dX4_init_187 : decode cX4_init 187 = .ok (.iinc 1 1, 3) := by decide +kernel
theorem dX4_init_190 : decode cX4_init 190 = .ok (.goto (-25), 3) := by decide +kernel
theorem dX4_init_193 : decode cX4_init 193 = .ok (.return_, 1) := by decide +kernel
theorem dX4_copyFrom_0 : decode cX4_copyFrom 0 = .ok (.aload_n 0, 1) := by decide +kernel
theorem dX4_copyFrom_1 : decode cX4_copyFrom 1 = .ok (.getfield 14, 3) := by decide +kernel
theorem dX4_copyFrom_4 : decode cX4_copyFrom 4 = .ok (.aload_n 1, 1) := by decide +kernel
theorem dX4_copyFrom_5 : decode cX4_copyFrom 5 = .ok (.getfield 14, 3) := by decide +kernel
theorem dX4_copyFrom_8 : decode cX4_copyFrom 8 = .ok (.invokevirtual 65, 3) := by decide +kernel
theorem dX4_copyFrom_11 : decode cX4_copyFrom 11 = .ok (.aload_n 0, 1) := by decide +kernel
theorem dX4_copyFrom_12 : decode cX4_copyFrom 12 = .ok (.getfield 20, 3) := by decide +kernel
theorem dX4_copyFrom_15 : decode cX4_copyFrom 15 = .ok (.aload_n 1, 1) := by decide +kernel
theorem dX4_copyFrom_16 : decode cX4_copyFrom 16 = .ok (.getfield 20, 3) := by decide +kernel
theorem dX4_copyFrom_19 : decode cX4_copyFrom 19 = .ok (.invokevirtual 65, 3) := by decide +kernel
theorem dX4_copyFrom_22 : decode cX4_copyFrom 22 = .ok (.aload_n 0, 1) := by decide +kernel
theorem dX4_copyFrom_23 : decode cX4_copyFrom 23 = .ok (.getfield 23, 3) := by decide +kernel
theorem dX4_copyFrom_26 : decode cX4_copyFrom 26 = .ok (.aload_n 1, 1) := by decide +kernel
theorem dX4_copyFrom_27 : decode cX4_copyFrom 27 = .ok (.getfield 23, 3) := by decide +kernel
theorem dX4_copyFrom_30 : decode cX4_copyFrom 30 = .ok (.invokevirtual 65, 3) := by decide +kernel
theorem dX4_copyFrom_33 : decode cX4_copyFrom 33 = .ok (.aload_n 1, 1) := by decide +kernel
theorem dX4_copyFrom_34 : decode cX4_copyFrom 34 = .ok (.getfield 26, 3) := by decide +kernel
theorem dX4_copyFrom_37 : decode cX4_copyFrom 37 = .ok (.iconst 0, 1) := by decide +kernel
theorem dX4_copyFrom_38 : decode cX4_copyFrom 38 = .ok (.aload_n 0, 1) := by decide +kernel
theorem dX4_copyFrom_39 : decode cX4_copyFrom 39 = .ok (.getfield 26, 3) := by decide +kernel
theorem dX4_copyFrom_42 : decode cX4_copyFrom 42 = .ok (.iconst 0, 1) := by decide +kernel
theorem dX4_copyFrom_43 : decode cX4_copyFrom 43 = .ok (.aload_n 0, 1) := by decide +kernel
theorem dX4_copyFrom_44 : decode cX4_copyFrom 44 = .ok (.getfield 26, 3) := by decide +kernel
theorem dX4_copyFrom_47 : decode cX4_copyFrom 47 = .ok (.arraylength, 1) := by decide +kernel
theorem dX4_copyFrom_48 : decode cX4_copyFrom 48 = .ok (.invokestatic 69, 3) := by decide +kernel
theorem dX4_copyFrom_51 : decode cX4_copyFrom 51 = .ok (.aload_n 0, 1) := by decide +kernel
theorem dX4_copyFrom_52 : decode cX4_copyFrom 52 = .ok (.getfield 30, 3) := by decide +kernel
theorem dX4_copyFrom_55 : decode cX4_copyFrom 55 = .ok (.aload_n 1, 1) := by decide +kernel
theorem dX4_copyFrom_56 : decode cX4_copyFrom 56 = .ok (.getfield 30, 3) := by decide +kernel
theorem dX4_copyFrom_59 : decode cX4_copyFrom 59 = .ok (.invokevirtual 65, 3) := by decide +kernel
theorem dX4_copyFrom_62 : decode cX4_copyFrom 62 = .ok (.aload_n 0, 1) := by decide +kernel
theorem dX4_copyFrom_63 : decode cX4_copyFrom 63 = .ok (.getfield 33, 3) := by decide +kernel
theorem dX4_copyFrom_66 : decode cX4_copyFrom 66 = .ok (.aload_n 1, 1) := by decide +kernel
theorem dX4_copyFrom_67 : decode cX4_copyFrom 67 = .ok (.getfield 33, 3) := by decide +kernel
theorem dX4_copyFrom_70 : decode cX4_copyFrom 70 = .ok (.invokevirtual 65, 3) := by decide +kernel
theorem dX4_copyFrom_73 : decode cX4_copyFrom 73 = .ok (.aload_n 0, 1) := by decide +kernel
theorem dX4_copyFrom_74 : decode cX4_copyFrom 74 = .ok (.getfield 36, 3) := by decide +kernel
theorem dX4_copyFrom_77 : decode cX4_copyFrom 77 = .ok (.aload_n 1, 1) := by decide +kernel
theorem dX4_copyFrom_78 : decode cX4_copyFrom 78 = .ok (.getfield 36, 3) := by decide +kernel
theorem dX4_copyFrom_81 : decode cX4_copyFrom 81 = .ok (.invokevirtual 65, 3) := by decide +kernel
theorem dX4_copyFrom_84 : decode cX4_copyFrom 84 = .ok (.aload_n 0, 1) := by decide +kernel
theorem dX4_copyFrom_85 : decode cX4_copyFrom 85 = .ok (.getfield 39, 3) := by decide +kernel
theorem dX4_copyFrom_88 : decode cX4_copyFrom 88 = .ok (.aload_n 1, 1) := by decide +kernel
theorem dX4_copyFrom_89 : decode cX4_copyFrom 89 = .ok (.getfield 39, 3) := by decide +kernel
theorem dX4_copyFrom_92 : decode cX4_copyFrom 92 = .ok (.invokevirtual 65, 3) := by decide +kernel
theorem dX4_copyFrom_95 : decode cX4_copyFrom 95 = .ok (.aload_n 0, 1) := by decide +kernel
theorem dX4_copyFrom_96 : decode cX4_copyFrom 96 = .ok (.getfield 45, 3) := by decide +kernel
theorem dX4_copyFrom_99 : decode cX4_copyFrom 99 = .ok (.aload_n 1, 1) := by decide +kernel
theorem dX4_copyFrom_100 : decode cX4_copyFrom 100 = .ok (.getfield 45, 3) := by decide +kernel
theorem dX4_copyFrom_103 : decode cX4_copyFrom 103 = .ok (.invokevirtual 75, 3) := by decide +kernel
theorem dX4_copyFrom_106 : decode cX4_copyFrom 106 = .ok (.iconst 0, 1) := by decide +kernel
theorem dX4_copyFrom_107 : decode cX4_copyFrom 107 = .ok (.istore_n 2, 1) := by decide +kernel
theorem dX4_copyFrom_108 : decode cX4_copyFrom 108 = .ok (.iload_n 2, 1) := by decide +kernel
theorem dX4_copyFrom_109 : decode cX4_copyFrom 109 = .ok (.aload_n 0, 1) := by decide +kernel
theorem dX4_copyFrom_110 : decode cX4_copyFrom 110 = .ok (.getfield 49, 3) := by decide +kernel
theorem dX4_copyFrom_113 : decode cX4_copyFrom 113 = .ok (.arraylength, 1) := by decide +kernel
theorem dX4_copyFrom_114 : decode cX4_copyFrom 114 = .ok (.if_icmp .ge 24, 3) := by decide +kernel
theorem dX4_copyFrom_117 : decode cX4_copyFrom 117 = .ok (.aload_n 0, 1) := by decide +kernel
theorem dX4_copyFrom_118 : decode cX4_copyFrom 118 = .ok (.getfield 49, 3) := by decide +kernel
theorem dX4_copyFrom_121 : decode cX4_copyFrom 121 = .ok (.iload_n 2, 1) := by decide +kernel
theorem dX4_copyFrom_122 : decode cX4_copyFrom 122 = .ok (.aaload, 1) := by decide +kernel
theorem dX4_copyFrom_123 : decode cX4_copyFrom 123 = .ok (.aload_n 1, 1) := by decide +kernel
theorem dX4_copyFrom_124 : decode cX4_copyFrom 124 = .ok (.getfield 49, 3) := by decide +kernel
theorem dX4_copyFrom_127 : decode cX4_copyFrom 127 = .ok (.iload_n 2, 1) := by decide +kernel
theorem dX4_copyFrom_128 : decode cX4_copyFrom 128 = .ok (.aaload, 1) := by decide +kernel
theorem dX4_copyFrom_129 : decode cX4_copyFrom 129 = .ok (.invokevirtual 75, 3) := by decide +kernel
theorem dX4_copyFrom_132 : decode cX4_copyFrom 132 = .ok (.iinc 2 1, 3) := by decide +kernel
theorem dX4_copyFrom_135 : decode cX4_copyFrom 135 = .ok (.goto (-27), 3) := by decide +kernel
theorem dX4_copyFrom_138 : decode cX4_copyFrom 138 = .ok (.aload_n 0, 1) := by decide +kernel
theorem dX4_copyFrom_139 : decode cX4_copyFrom 139 = .ok (.aload_n 1, 1) := by decide +kernel
theorem dX4_copyFrom_140 : decode cX4_copyFrom 140 = .ok (.getfield 53, 3) := by decide +kernel
theorem dX4_copyFrom_143 : decode cX4_copyFrom 143 = .ok (.putfield 53, 3) := by decide +kernel
theorem dX4_copyFrom_146 : decode cX4_copyFrom 146 = .ok (.return_, 1) := by decide +kernel
theorem dX4_draw_0 : decode cX4_draw 0 = .ok (.aload_n 0, 1) := by decide +kernel
theorem dX4_draw_1 : decode cX4_draw 1 = .ok (.aload_n 0, 1) := by decide +kernel
theorem dX4_draw_2 : decode cX4_draw 2 = .ok (.getfield 53, 3) := by decide +kernel
theorem dX4_draw_5 : decode cX4_draw 5 = .ok (.ldc 78, 2) := by decide +kernel
theorem dX4_draw_7 : decode cX4_draw 7 = .ok (.imul, 1) := by decide +kernel
theorem dX4_draw_8 : decode cX4_draw 8 = .ok (.sipush 12345, 3) := by decide +kernel
theorem dX4_draw_11 : decode cX4_draw 11 = .ok (.iadd, 1) := by decide +kernel
theorem dX4_draw_12 : decode cX4_draw 12 = .ok (.putfield 53, 3) := by decide +kernel
theorem dX4_draw_15 : decode cX4_draw 15 = .ok (.iload_n 1, 1) := by decide +kernel
theorem dX4_draw_16 : decode cX4_draw 16 = .ok (.iconst 1, 1) := by decide +kernel
theorem dX4_draw_17 : decode cX4_draw 17 = .ok (.if_icmp .ge 7, 3) := by decide +kernel
theorem dX4_draw_20 : decode cX4_draw 20 = .ok (.iconst 0, 1) := by decide +kernel
theorem dX4_draw_21 : decode cX4_draw 21 = .ok (.goto 12, 3) := by decide +kernel
theorem dX4_draw_24 : decode cX4_draw 24 = .ok (.aload_n 0, 1) := by decide +kernel
theorem dX4_draw_25 : decode cX4_draw 25 = .ok (.getfield 53, 3) := by decide +kernel
theorem dX4_draw_28 : decode cX4_draw 28 = .ok (.bipush 16, 2) := by decide +kernel
theorem dX4_draw_30 : decode cX4_draw 30 = .ok (.iushr, 1) := by decide +kernel
theorem dX4_draw_31 : decode cX4_draw 31 = .ok (.iload_n 1, 1) := by decide +kernel
theorem dX4_draw_32 : decode cX4_draw 32 = .ok (.irem, 1) := by decide +kernel
theorem dX4_draw_33 : decode cX4_draw 33 = .ok (.ireturn, 1) := by decide +kernel
theorem dX4_addCurve_0 : decode cX4_addCurve 0 = .ok (.aload_n 0, 1) := by decide +kernel
theorem dX4_addCurve_1 : decode cX4_addCurve 1 = .ok (.getfield 23, 3) := by decide +kernel
theorem dX4_addCurve_4 : decode cX4_addCurve 4 = .ok (.invokevirtual 57, 3) := by decide +kernel
theorem dX4_addCurve_7 : decode cX4_addCurve 7 = .ok (.istore 6, 2) := by decide +kernel
theorem dX4_addCurve_9 : decode cX4_addCurve 9 = .ok (.aload_n 0, 1) := by decide +kernel
theorem dX4_addCurve_10 : decode cX4_addCurve 10 = .ok (.getfield 23, 3) := by decide +kernel
theorem dX4_addCurve_13 : decode cX4_addCurve 13 = .ok (.iload 6, 2) := by decide +kernel
theorem dX4_addCurve_15 : decode cX4_addCurve 15 = .ok (.iconst 0, 1) := by decide +kernel
theorem dX4_addCurve_16 : decode cX4_addCurve 16 = .ok (.iload_n 1, 1) := by decide +kernel
theorem dX4_addCurve_17 : decode cX4_addCurve 17 = .ok (.invokevirtual 61, 3) := by decide +kernel
theorem dX4_addCurve_20 : decode cX4_addCurve 20 = .ok (.aload_n 0, 1) := by decide +kernel
theorem dX4_addCurve_21 : decode cX4_addCurve 21 = .ok (.getfield 23, 3) := by decide +kernel
theorem dX4_addCurve_24 : decode cX4_addCurve 24 = .ok (.iload 6, 2) := by decide +kernel
theorem dX4_addCurve_26 : decode cX4_addCurve 26 = .ok (.iconst 1, 1) := by decide +kernel
theorem dX4_addCurve_27 : decode cX4_addCurve 27 = .ok (.iload_n 2, 1) := by decide +kernel
theorem dX4_addCurve_28 : decode cX4_addCurve 28 = .ok (.invokevirtual 61, 3) := by decide +kernel
theorem dX4_addCurve_31 : decode cX4_addCurve 31 = .ok (.aload_n 0, 1) := by decide +kernel
theorem dX4_addCurve_32 : decode cX4_addCurve 32 = .ok (.getfield 23, 3) := by decide +kernel
theorem dX4_addCurve_35 : decode cX4_addCurve 35 = .ok (.iload 6, 2) := by decide +kernel
theorem dX4_addCurve_37 : decode cX4_addCurve 37 = .ok (.iconst 2, 1) := by decide +kernel
theorem dX4_addCurve_38 : decode cX4_addCurve 38 = .ok (.iload_n 3, 1) := by decide +kernel
theorem dX4_addCurve_39 : decode cX4_addCurve 39 = .ok (.invokevirtual 61, 3) := by decide +kernel
theorem dX4_addCurve_42 : decode cX4_addCurve 42 = .ok (.aload_n 0, 1) := by decide +kernel
theorem dX4_addCurve_43 : decode cX4_addCurve 43 = .ok (.getfield 23, 3) := by decide +kernel
theorem dX4_addCurve_46 : decode cX4_addCurve 46 = .ok (.iload 6, 2) := by decide +kernel
theorem dX4_addCurve_48 : decode cX4_addCurve 48 = .ok (.iconst 3, 1) := by decide +kernel
theorem dX4_addCurve_49 : decode cX4_addCurve 49 = .ok (.iload 4, 2) := by decide +kernel
theorem dX4_addCurve_51 : decode cX4_addCurve 51 = .ok (.invokevirtual 61, 3) := by decide +kernel
theorem dX4_addCurve_54 : decode cX4_addCurve 54 = .ok (.aload_n 0, 1) := by decide +kernel
theorem dX4_addCurve_55 : decode cX4_addCurve 55 = .ok (.getfield 23, 3) := by decide +kernel
theorem dX4_addCurve_58 : decode cX4_addCurve 58 = .ok (.iload 6, 2) := by decide +kernel
theorem dX4_addCurve_60 : decode cX4_addCurve 60 = .ok (.iconst 4, 1) := by decide +kernel
theorem dX4_addCurve_61 : decode cX4_addCurve 61 = .ok (.iload 5, 2) := by decide +kernel
theorem dX4_addCurve_63 : decode cX4_addCurve 63 = .ok (.invokevirtual 61, 3) := by decide +kernel
theorem dX4_addCurve_66 : decode cX4_addCurve 66 = .ok (.iload 6, 2) := by decide +kernel
theorem dX4_addCurve_68 : decode cX4_addCurve 68 = .ok (.ireturn, 1) := by decide +kernel
theorem dX4_curvesIn_0 : decode cX4_curvesIn 0 = .ok (.iconst 0, 1) := by decide +kernel
theorem dX4_curvesIn_1 : decode cX4_curvesIn 1 = .ok (.istore_n 2, 1) := by decide +kernel
theorem dX4_curvesIn_2 : decode cX4_curvesIn 2 = .ok (.iconst 0, 1) := by decide +kernel
theorem dX4_curvesIn_3 : decode cX4_curvesIn 3 = .ok (.istore_n 3, 1) := by decide +kernel
theorem dX4_curvesIn_4 : decode cX4_curvesIn 4 = .ok (.iload_n 3, 1) := by decide +kernel
theorem dX4_curvesIn_5 : decode cX4_curvesIn 5 = .ok (.aload_n 0, 1) := by decide +kernel
theorem dX4_curvesIn_6 : decode cX4_curvesIn 6 = .ok (.getfield 23, 3) := by decide +kernel
theorem dX4_curvesIn_9 : decode cX4_curvesIn 9 = .ok (.getfield 79, 3) := by decide +kernel
theorem dX4_curvesIn_12 : decode cX4_curvesIn 12 = .ok (.if_icmp .ge 30, 3) := by decide +kernel
theorem dX4_curvesIn_15 : decode cX4_curvesIn 15 = .ok (.iload_n 2, 1) := by decide +kernel
theorem dX4_curvesIn_16 : decode cX4_curvesIn 16 = .ok (.aload_n 0, 1) := by decide +kernel
theorem dX4_curvesIn_17 : decode cX4_curvesIn 17 = .ok (.getfield 23, 3) := by decide +kernel
theorem dX4_curvesIn_20 : decode cX4_curvesIn 20 = .ok (.iload_n 3, 1) := by decide +kernel
theorem dX4_curvesIn_21 : decode cX4_curvesIn 21 = .ok (.iconst 1, 1) := by decide +kernel
theorem dX4_curvesIn_22 : decode cX4_curvesIn 22 = .ok (.invokevirtual 82, 3) := by decide +kernel
theorem dX4_curvesIn_25 : decode cX4_curvesIn 25 = .ok (.iload_n 1, 1) := by decide +kernel
theorem dX4_curvesIn_26 : decode cX4_curvesIn 26 = .ok (.if_icmp .ne 7, 3) := by decide +kernel
theorem dX4_curvesIn_29 : decode cX4_curvesIn 29 = .ok (.iconst 1, 1) := by decide +kernel
theorem dX4_curvesIn_30 : decode cX4_curvesIn 30 = .ok (.goto 4, 3) := by decide +kernel
theorem dX4_curvesIn_33 : decode cX4_curvesIn 33 = .ok (.iconst 0, 1) := by decide +kernel
theorem dX4_curvesIn_34 : decode cX4_curvesIn 34 = .ok (.iadd, 1) := by decide +kernel
theorem dX4_curvesIn_35 : decode cX4_curvesIn 35 = .ok (.istore_n 2, 1) := by decide +kernel
theorem dX4_curvesIn_36 : decode cX4_curvesIn 36 = .ok (.iinc 3 1, 3) := by decide +kernel
theorem dX4_curvesIn_39 : decode cX4_curvesIn 39 = .ok (.goto (-35), 3) := by decide +kernel
theorem dX4_curvesIn_42 : decode cX4_curvesIn 42 = .ok (.iload_n 2, 1) := by decide +kernel
theorem dX4_curvesIn_43 : decode cX4_curvesIn 43 = .ok (.ireturn, 1) := by decide +kernel
theorem dX4_size_0 : decode cX4_size 0 = .ok (.aload_n 0, 1) := by decide +kernel
theorem dX4_size_1 : decode cX4_size 1 = .ok (.getfield 23, 3) := by decide +kernel
theorem dX4_size_4 : decode cX4_size 4 = .ok (.iload_n 1, 1) := by decide +kernel
theorem dX4_size_5 : decode cX4_size 5 = .ok (.iconst 3, 1) := by decide +kernel
theorem dX4_size_6 : decode cX4_size 6 = .ok (.invokevirtual 82, 3) := by decide +kernel
theorem dX4_size_9 : decode cX4_size 9 = .ok (.ireturn, 1) := by decide +kernel
theorem dX4_roomFrom_0 : decode cX4_roomFrom 0 = .ok (.iload_n 2, 1) := by decide +kernel
theorem dX4_roomFrom_1 : decode cX4_roomFrom 1 = .ok (.ifCond .lt 12, 3) := by decide +kernel
theorem dX4_roomFrom_4 : decode cX4_roomFrom 4 = .ok (.iload_n 2, 1) := by decide +kernel
theorem dX4_roomFrom_5 : decode cX4_roomFrom 5 = .ok (.aload_n 0, 1) := by decide +kernel
theorem dX4_roomFrom_6 : decode cX4_roomFrom 6 = .ok (.iload_n 1, 1) := by decide +kernel
theorem dX4_roomFrom_7 : decode cX4_roomFrom 7 = .ok (.invokevirtual 86, 3) := by decide +kernel
theorem dX4_roomFrom_10 : decode cX4_roomFrom 10 = .ok (.if_icmp .lt 5, 3) := by decide +kernel
theorem dX4_roomFrom_13 : decode cX4_roomFrom 13 = .ok (.iconst 0, 1) := by decide +kernel
theorem dX4_roomFrom_14 : decode cX4_roomFrom 14 = .ok (.ireturn, 1) := by decide +kernel
theorem dX4_roomFrom_15 : decode cX4_roomFrom 15 = .ok (.iload_n 3, 1) := by decide +kernel
theorem dX4_roomFrom_16 : decode cX4_roomFrom 16 = .ok (.iconst 1, 1) := by decide +kernel
theorem dX4_roomFrom_17 : decode cX4_roomFrom 17 = .ok (.if_icmp .ne 9, 3) := by decide +kernel
theorem dX4_roomFrom_20 : decode cX4_roomFrom 20 = .ok (.iload_n 2, 1) := by decide +kernel
theorem dX4_roomFrom_21 : decode cX4_roomFrom 21 = .ok (.iconst 1, 1) := by decide +kernel
theorem dX4_roomFrom_22 : decode cX4_roomFrom 22 = .ok (.iadd, 1) := by decide +kernel
theorem dX4_roomFrom_23 : decode cX4_roomFrom 23 = .ok (.goto 10, 3) := by decide +kernel
theorem dX4_roomFrom_26 : decode cX4_roomFrom 26 = .ok (.aload_n 0, 1) := by decide +kernel
theorem dX4_roomFrom_27 : decode cX4_roomFrom 27 = .ok (.iload_n 1, 1) := by decide +kernel
theorem dX4_roomFrom_28 : decode cX4_roomFrom 28 = .ok (.invokevirtual 86, 3) := by decide +kernel
theorem dX4_roomFrom_31 : decode cX4_roomFrom 31 = .ok (.iload_n 2, 1) := by decide +kernel
theorem dX4_roomFrom_32 : decode cX4_roomFrom 32 = .ok (.isub, 1) := by decide +kernel
theorem dX4_roomFrom_33 : decode cX4_roomFrom 33 = .ok (.ireturn, 1) := by decide +kernel
theorem dX4_pointAt_0 : decode cX4_pointAt 0 = .ok (.iload_n 1, 1) := by decide +kernel
theorem dX4_pointAt_1 : decode cX4_pointAt 1 = .ok (.ifCond .lt 23, 3) := by decide +kernel
theorem dX4_pointAt_4 : decode cX4_pointAt 4 = .ok (.iload_n 1, 1) := by decide +kernel
theorem dX4_pointAt_5 : decode cX4_pointAt 5 = .ok (.bipush 24, 2) := by decide +kernel
theorem dX4_pointAt_7 : decode cX4_pointAt 7 = .ok (.if_icmp .ge 17, 3) := by decide +kernel
theorem dX4_pointAt_10 : decode cX4_pointAt 10 = .ok (.iload_n 2, 1) := by decide +kernel
theorem dX4_pointAt_11 : decode cX4_pointAt 11 = .ok (.ifCond .lt 13, 3) := by decide +kernel
theorem dX4_pointAt_14 : decode cX4_pointAt 14 = .ok (.iload_n 2, 1) := by decide +kernel
theorem dX4_pointAt_15 : decode cX4_pointAt 15 = .ok (.bipush 24, 2) := by decide +kernel
theorem dX4_pointAt_17 : decode cX4_pointAt 17 = .ok (.if_icmp .ge 7, 3) := by decide +kernel
theorem dX4_pointAt_20 : decode cX4_pointAt 20 = .ok (.iconst 1, 1) := by decide +kernel
theorem dX4_pointAt_21 : decode cX4_pointAt 21 = .ok (.goto 4, 3) := by decide +kernel
theorem dX4_pointAt_24 : decode cX4_pointAt 24 = .ok (.iconst 0, 1) := by decide +kernel
theorem dX4_pointAt_25 : decode cX4_pointAt 25 = .ok (.istore_n 3, 1) := by decide +kernel
theorem dX4_pointAt_26 : decode cX4_pointAt 26 = .ok (.iload_n 3, 1) := by decide +kernel
theorem dX4_pointAt_27 : decode cX4_pointAt 27 = .ok (.ifCond .eq 17, 3) := by decide +kernel
theorem dX4_pointAt_30 : decode cX4_pointAt 30 = .ok (.aload_n 0, 1) := by decide +kernel
theorem dX4_pointAt_31 : decode cX4_pointAt 31 = .ok (.getfield 26, 3) := by decide +kernel
theorem dX4_pointAt_34 : decode cX4_pointAt 34 = .ok (.iload_n 1, 1) := by decide +kernel
theorem dX4_pointAt_35 : decode cX4_pointAt 35 = .ok (.bipush 24, 2) := by decide +kernel
theorem dX4_pointAt_37 : decode cX4_pointAt 37 = .ok (.imul, 1) := by decide +kernel
theorem dX4_pointAt_38 : decode cX4_pointAt 38 = .ok (.iload_n 2, 1) := by decide +kernel
theorem dX4_pointAt_39 : decode cX4_pointAt 39 = .ok (.iadd, 1) := by decide +kernel
theorem dX4_pointAt_40 : decode cX4_pointAt 40 = .ok (.iaload, 1) := by decide +kernel
theorem dX4_pointAt_41 : decode cX4_pointAt 41 = .ok (.goto 4, 3) := by decide +kernel
theorem dX4_pointAt_44 : decode cX4_pointAt 44 = .ok (.iconst 0, 1) := by decide +kernel
theorem dX4_pointAt_45 : decode cX4_pointAt 45 = .ok (.ireturn, 1) := by decide +kernel
theorem dX4_setPoint_0 : decode cX4_setPoint 0 = .ok (.iload_n 1, 1) := by decide +kernel
theorem dX4_setPoint_1 : decode cX4_setPoint 1 = .ok (.ifCond .lt 31, 3) := by decide +kernel
theorem dX4_setPoint_4 : decode cX4_setPoint 4 = .ok (.iload_n 1, 1) := by decide +kernel
theorem dX4_setPoint_5 : decode cX4_setPoint 5 = .ok (.bipush 24, 2) := by decide +kernel
theorem dX4_setPoint_7 : decode cX4_setPoint 7 = .ok (.if_icmp .ge 25, 3) := by decide +kernel
theorem dX4_setPoint_10 : decode cX4_setPoint 10 = .ok (.iload_n 2, 1) := by decide +kernel
theorem dX4_setPoint_11 : decode cX4_setPoint 11 = .ok (.ifCond .lt 21, 3) := by decide +kernel
theorem dX4_setPoint_14 : decode cX4_setPoint 14 = .ok (.iload_n 2, 1) := by decide +kernel
theorem dX4_setPoint_15 : decode cX4_setPoint 15 = .ok (.bipush 24, 2) := by decide +kernel
theorem dX4_setPoint_17 : decode cX4_setPoint 17 = .ok (.if_icmp .ge 15, 3) := by decide +kernel
theorem dX4_setPoint_20 : decode cX4_setPoint 20 = .ok (.aload_n 0, 1) := by decide +kernel
theorem dX4_setPoint_21 : decode cX4_setPoint 21 = .ok (.getfield 26, 3) := by decide +kernel
theorem dX4_setPoint_24 : decode cX4_setPoint 24 = .ok (.iload_n 1, 1) := by decide +kernel
theorem dX4_setPoint_25 : decode cX4_setPoint 25 = .ok (.bipush 24, 2) := by decide +kernel
theorem dX4_setPoint_27 : decode cX4_setPoint 27 = .ok (.imul, 1) := by decide +kernel
theorem dX4_setPoint_28 : decode cX4_setPoint 28 = .ok (.iload_n 2, 1) := by decide +kernel
theorem dX4_setPoint_29 : decode cX4_setPoint 29 = .ok (.iadd, 1) := by decide +kernel
theorem dX4_setPoint_30 : decode cX4_setPoint 30 = .ok (.iload_n 3, 1) := by decide +kernel
theorem dX4_setPoint_31 : decode cX4_setPoint 31 = .ok (.iastore, 1) := by decide +kernel
theorem dX4_setPoint_32 : decode cX4_setPoint 32 = .ok (.return_, 1) := by decide +kernel
theorem dX4_hairAt_0 : decode cX4_hairAt 0 = .ok (.aload_n 0, 1) := by decide +kernel
theorem dX4_hairAt_1 : decode cX4_hairAt 1 = .ok (.iload_n 1, 1) := by decide +kernel
theorem dX4_hairAt_2 : decode cX4_hairAt 2 = .ok (.iload_n 2, 1) := by decide +kernel
theorem dX4_hairAt_3 : decode cX4_hairAt 3 = .ok (.iconst 1, 1) := by decide +kernel
theorem dX4_hairAt_4 : decode cX4_hairAt 4 = .ok (.isub, 1) := by decide +kernel
theorem dX4_hairAt_5 : decode cX4_hairAt 5 = .ok (.invokevirtual 90, 3) := by decide +kernel
theorem dX4_hairAt_8 : decode cX4_hairAt 8 = .ok (.aload_n 0, 1) := by decide +kernel
theorem dX4_hairAt_9 : decode cX4_hairAt 9 = .ok (.iload_n 1, 1) := by decide +kernel
theorem dX4_hairAt_10 : decode cX4_hairAt 10 = .ok (.iload_n 2, 1) := by decide +kernel
theorem dX4_hairAt_11 : decode cX4_hairAt 11 = .ok (.iconst 1, 1) := by decide +kernel
theorem dX4_hairAt_12 : decode cX4_hairAt 12 = .ok (.iadd, 1) := by decide +kernel
theorem dX4_hairAt_13 : decode cX4_hairAt 13 = .ok (.invokevirtual 90, 3) := by decide +kernel
theorem dX4_hairAt_16 : decode cX4_hairAt 16 = .ok (.iadd, 1) := by decide +kernel
theorem dX4_hairAt_17 : decode cX4_hairAt 17 = .ok (.iconst 2, 1) := by decide +kernel
theorem dX4_hairAt_18 : decode cX4_hairAt 18 = .ok (.aload_n 0, 1) := by decide +kernel
theorem dX4_hairAt_19 : decode cX4_hairAt 19 = .ok (.iload_n 1, 1) := by decide +kernel
theorem dX4_hairAt_20 : decode cX4_hairAt 20 = .ok (.iload_n 2, 1) := by decide +kernel
theorem dX4_hairAt_21 : decode cX4_hairAt 21 = .ok (.invokevirtual 90, 3) := by decide +kernel
theorem dX4_hairAt_24 : decode cX4_hairAt 24 = .ok (.imul, 1) := by decide +kernel
theorem dX4_hairAt_25 : decode cX4_hairAt 25 = .ok (.isub, 1) := by decide +kernel
theorem dX4_hairAt_26 : decode cX4_hairAt 26 = .ok (.ireturn, 1) := by decide +kernel
theorem dX4_dayOf_0 : decode cX4_dayOf 0 = .ok (.aload_n 0, 1) := by decide +kernel
theorem dX4_dayOf_1 : decode cX4_dayOf 1 = .ok (.getfield 20, 3) := by decide +kernel
theorem dX4_dayOf_4 : decode cX4_dayOf 4 = .ok (.aload_n 0, 1) := by decide +kernel
theorem dX4_dayOf_5 : decode cX4_dayOf 5 = .ok (.getfield 23, 3) := by decide +kernel
theorem dX4_dayOf_8 : decode cX4_dayOf 8 = .ok (.iload_n 1, 1) := by decide +kernel
theorem dX4_dayOf_9 : decode cX4_dayOf 9 = .ok (.iconst 1, 1) := by decide +kernel
theorem dX4_dayOf_10 : decode cX4_dayOf 10 = .ok (.invokevirtual 82, 3) := by decide +kernel
theorem dX4_dayOf_13 : decode cX4_dayOf 13 = .ok (.iconst 0, 1) := by decide +kernel
theorem dX4_dayOf_14 : decode cX4_dayOf 14 = .ok (.invokevirtual 82, 3) := by decide +kernel
theorem dX4_dayOf_17 : decode cX4_dayOf 17 = .ok (.ireturn, 1) := by decide +kernel
theorem dX4_namesOf_0 : decode cX4_namesOf 0 = .ok (.aload_n 0, 1) := by decide +kernel
theorem dX4_namesOf_1 : decode cX4_namesOf 1 = .ok (.getfield 20, 3) := by decide +kernel
theorem dX4_namesOf_4 : decode cX4_namesOf 4 = .ok (.aload_n 0, 1) := by decide +kernel
theorem dX4_namesOf_5 : decode cX4_namesOf 5 = .ok (.getfield 23, 3) := by decide +kernel
theorem dX4_namesOf_8 : decode cX4_namesOf 8 = .ok (.iload_n 1, 1) := by decide +kernel
theorem dX4_namesOf_9 : decode cX4_namesOf 9 = .ok (.iconst 1, 1) := by decide +kernel
theorem dX4_namesOf_10 : decode cX4_namesOf 10 = .ok (.invokevirtual 82, 3) := by decide +kernel
theorem dX4_namesOf_13 : decode cX4_namesOf 13 = .ok (.iconst 1, 1) := by decide +kernel
theorem dX4_namesOf_14 : decode cX4_namesOf 14 = .ok (.invokevirtual 82, 3) := by decide +kernel
theorem dX4_namesOf_17 : decode cX4_namesOf 17 = .ok (.ireturn, 1) := by decide +kernel
theorem dX5_init_0 : decode cX5_init 0 = .ok (.aload_n 0, 1) := by decide +kernel
theorem dX5_init_1 : decode cX5_init 1 = .ok (.invokespecial 1, 3) := by decide +kernel
theorem dX5_init_4 : decode cX5_init 4 = .ok (.aload_n 0, 1) := by decide +kernel
theorem dX5_init_5 : decode cX5_init 5 = .ok (.iconst 0, 1) := by decide +kernel
theorem dX5_init_6 : decode cX5_init 6 = .ok (.putfield 7, 3) := by decide +kernel
theorem dX5_init_9 : decode cX5_init 9 = .ok (.aload_n 0, 1) := by decide +kernel
theorem dX5_init_10 : decode cX5_init 10 = .ok (.iload_n 1, 1) := by decide +kernel
theorem dX5_init_11 : decode cX5_init 11 = .ok (.putfield 13, 3) := by decide +kernel
theorem dX5_init_14 : decode cX5_init 14 = .ok (.aload_n 0, 1) := by decide +kernel
theorem dX5_init_15 : decode cX5_init 15 = .ok (.iload_n 2, 1) := by decide +kernel
theorem dX5_init_16 : decode cX5_init 16 = .ok (.putfield 16, 3) := by decide +kernel
theorem dX5_init_19 : decode cX5_init 19 = .ok (.aload_n 0, 1) := by decide +kernel
theorem dX5_init_20 : decode cX5_init 20 = .ok (.iconst 0, 1) := by decide +kernel
theorem dX5_init_21 : decode cX5_init 21 = .ok (.iload_n 1, 1) := by decide +kernel
theorem dX5_init_22 : decode cX5_init 22 = .ok (.iload_n 2, 1) := by decide +kernel
theorem dX5_init_23 : decode cX5_init 23 = .ok (.imul, 1) := by decide +kernel
theorem dX5_init_24 : decode cX5_init 24 = .ok (.invokestatic 19, 3) := by decide +kernel
theorem dX5_init_27 : decode cX5_init 27 = .ok (.newarray .int, 2) := by decide +kernel
theorem dX5_init_29 : decode cX5_init 29 = .ok (.putfield 25, 3) := by decide +kernel
theorem dX5_init_32 : decode cX5_init 32 = .ok (.return_, 1) := by decide +kernel
theorem dX5_isFull_0 : decode cX5_isFull 0 = .ok (.aload_n 0, 1) := by decide +kernel
theorem dX5_isFull_1 : decode cX5_isFull 1 = .ok (.getfield 7, 3) := by decide +kernel
theorem dX5_isFull_4 : decode cX5_isFull 4 = .ok (.aload_n 0, 1) := by decide +kernel
theorem dX5_isFull_5 : decode cX5_isFull 5 = .ok (.getfield 16, 3) := by decide +kernel
theorem dX5_isFull_8 : decode cX5_isFull 8 = .ok (.if_icmp .lt 7, 3) := by decide +kernel
theorem dX5_isFull_11 : decode cX5_isFull 11 = .ok (.iconst 1, 1) := by decide +kernel
theorem dX5_isFull_12 : decode cX5_isFull 12 = .ok (.goto 4, 3) := by decide +kernel
theorem dX5_isFull_15 : decode cX5_isFull 15 = .ok (.iconst 0, 1) := by decide +kernel
theorem dX5_isFull_16 : decode cX5_isFull 16 = .ok (.ireturn, 1) := by decide +kernel
theorem dX5_has_0 : decode cX5_has 0 = .ok (.iload_n 1, 1) := by decide +kernel
theorem dX5_has_1 : decode cX5_has 1 = .ok (.ifCond .lt 15, 3) := by decide +kernel
theorem dX5_has_4 : decode cX5_has 4 = .ok (.iload_n 1, 1) := by decide +kernel
theorem dX5_has_5 : decode cX5_has 5 = .ok (.aload_n 0, 1) := by decide +kernel
theorem dX5_has_6 : decode cX5_has 6 = .ok (.getfield 7, 3) := by decide +kernel
theorem dX5_has_9 : decode cX5_has 9 = .ok (.if_icmp .ge 7, 3) := by decide +kernel
theorem dX5_has_12 : decode cX5_has 12 = .ok (.iconst 1, 1) := by decide +kernel
theorem dX5_has_13 : decode cX5_has 13 = .ok (.goto 4, 3) := by decide +kernel
theorem dX5_has_16 : decode cX5_has 16 = .ok (.iconst 0, 1) := by decide +kernel
theorem dX5_has_17 : decode cX5_has 17 = .ok (.ireturn, 1) := by decide +kernel
theorem dX5_add_0 : decode cX5_add 0 = .ok (.aload_n 0, 1) := by decide +kernel
theorem dX5_add_1 : decode cX5_add 1 = .ok (.getfield 7, 3) := by decide +kernel
theorem dX5_add_4 : decode cX5_add 4 = .ok (.aload_n 0, 1) := by decide +kernel
theorem dX5_add_5 : decode cX5_add 5 = .ok (.getfield 16, 3) := by decide +kernel
theorem dX5_add_8 : decode cX5_add 8 = .ok (.if_icmp .lt 5, 3) := by decide +kernel
theorem dX5_add_11 : decode cX5_add 11 = .ok (.iconst (-1), 1) := by decide +kernel
theorem dX5_add_12 : decode cX5_add 12 = .ok (.ireturn, 1) := by decide +kernel
theorem dX5_add_13 : decode cX5_add 13 = .ok (.iconst 0, 1) := by decide +kernel
theorem dX5_add_14 : decode cX5_add 14 = .ok (.istore_n 1, 1) := by decide +kernel
theorem dX5_add_15 : decode cX5_add 15 = .ok (.iload_n 1, 1) := by decide +kernel
theorem dX5_add_16 : decode cX5_add 16 = .ok (.aload_n 0, 1) := by decide +kernel
theorem dX5_add_17 : decode cX5_add 17 = .ok (.getfield 13, 3) := by decide +kernel
theorem dX5_add_20 : decode cX5_add 20 = .ok (.if_icmp .ge 26, 3) := by decide +kernel
theorem dX5_add_23 : decode cX5_add 23 = .ok (.aload_n 0, 1) := by decide +kernel
theorem dX5_add_24 : decode cX5_add 24 = .ok (.getfield 25, 3) := by decide +kernel
theorem dX5_add_27 : decode cX5_add 27 = .ok (.aload_n 0, 1) := by decide +kernel
theorem dX5_add_28 : decode cX5_add 28 = .ok (.getfield 7, 3) := by decide +kernel
theorem dX5_add_31 : decode cX5_add 31 = .ok (.aload_n 0, 1) := by decide +kernel
theorem dX5_add_32 : decode cX5_add 32 = .ok (.getfield 13, 3) := by decide +kernel
theorem dX5_add_35 : decode cX5_add 35 = .ok (.imul, 1) := by decide +kernel
theorem dX5_add_36 : decode cX5_add 36 = .ok (.iload_n 1, 1) := by decide +kernel
theorem dX5_add_37 : decode cX5_add 37 = .ok (.iadd, 1) := by decide +kernel
theorem dX5_add_38 : decode cX5_add 38 = .ok (.iconst 0, 1) := by decide +kernel
theorem dX5_add_39 : decode cX5_add 39 = .ok (.iastore, 1) := by decide +kernel
theorem dX5_add_40 : decode cX5_add 40 = .ok (.iinc 1 1, 3) := by decide +kernel
theorem dX5_add_43 : decode cX5_add 43 = .ok (.goto (-28), 3) := by decide +kernel
theorem dX5_add_46 : decode cX5_add 46 = .ok (.aload_n 0, 1) := by decide +kernel
theorem dX5_add_47 : decode cX5_add 47 = .ok (.dup, 1) := by decide +kernel
theorem dX5_add_48 : decode cX5_add 48 = .ok (.getfield 7, 3) := by decide +kernel
theorem dX5_add_51 : decode cX5_add 51 = .ok (.iconst 1, 1) := by decide +kernel
theorem dX5_add_52 : decode cX5_add 52 = .ok (.iadd, 1) := by decide +kernel
theorem dX5_add_53 : decode cX5_add 53 = .ok (.putfield 7, 3) := by decide +kernel
theorem dX5_add_56 : decode cX5_add 56 = .ok (.aload_n 0, 1) := by decide +kernel
theorem dX5_add_57 : decode cX5_add 57 = .ok (.getfield 7, 3) := by decide +kernel
theorem dX5_add_60 : decode cX5_add 60 = .ok (.iconst 1, 1) := by decide +kernel
theorem dX5_add_61 : decode cX5_add 61 = .ok (.isub, 1) := by decide +kernel
theorem dX5_add_62 : decode cX5_add 62 = .ok (.ireturn, 1) := by decide +kernel
theorem dX5_at_0 : decode cX5_at 0 = .ok (.iload_n 1, 1) := by decide +kernel
theorem dX5_at_1 : decode cX5_at 1 = .ok (.ifCond .lt 39, 3) := by decide +kernel
theorem dX5_at_4 : decode cX5_at 4 = .ok (.iload_n 1, 1) := by decide +kernel
theorem dX5_at_5 : decode cX5_at 5 = .ok (.aload_n 0, 1) := by decide +kernel
theorem dX5_at_6 : decode cX5_at 6 = .ok (.getfield 7, 3) := by decide +kernel
theorem dX5_at_9 : decode cX5_at 9 = .ok (.if_icmp .ge 31, 3) := by decide +kernel
theorem dX5_at_12 : decode cX5_at 12 = .ok (.iload_n 2, 1) := by decide +kernel
theorem dX5_at_13 : decode cX5_at 13 = .ok (.ifCond .lt 27, 3) := by decide +kernel
theorem dX5_at_16 : decode cX5_at 16 = .ok (.iload_n 2, 1) := by decide +kernel
theorem dX5_at_17 : decode cX5_at 17 = .ok (.aload_n 0, 1) := by decide +kernel
theorem dX5_at_18 : decode cX5_at 18 = .ok (.getfield 13, 3) := by decide +kernel
theorem dX5_at_21 : decode cX5_at 21 = .ok (.if_icmp .ge 19, 3) := by decide +kernel
theorem dX5_at_24 : decode cX5_at 24 = .ok (.aload_n 0, 1) := by decide +kernel
theorem dX5_at_25 : decode cX5_at 25 = .ok (.getfield 25, 3) := by decide +kernel
theorem dX5_at_28 : decode cX5_at 28 = .ok (.iload_n 1, 1) := by decide +kernel
theorem dX5_at_29 : decode cX5_at 29 = .ok (.aload_n 0, 1) := by decide +kernel
theorem dX5_at_30 : decode cX5_at 30 = .ok (.getfield 13, 3) := by decide +kernel
theorem dX5_at_33 : decode cX5_at 33 = .ok (.imul, 1) := by decide +kernel
theorem dX5_at_34 : decode cX5_at 34 = .ok (.iload_n 2, 1) := by decide +kernel
theorem dX5_at_35 : decode cX5_at 35 = .ok (.iadd, 1) := by decide +kernel
theorem dX5_at_36 : decode cX5_at 36 = .ok (.iaload, 1) := by decide +kernel
theorem dX5_at_37 : decode cX5_at 37 = .ok (.goto 4, 3) := by decide +kernel
theorem dX5_at_40 : decode cX5_at 40 = .ok (.iconst 0, 1) := by decide +kernel
theorem dX5_at_41 : decode cX5_at 41 = .ok (.ireturn, 1) := by decide +kernel
theorem dX5_set_0 : decode cX5_set 0 = .ok (.iload_n 1, 1) := by decide +kernel
theorem dX5_set_1 : decode cX5_set 1 = .ok (.ifCond .lt 37, 3) := by decide +kernel
theorem dX5_set_4 : decode cX5_set 4 = .ok (.iload_n 1, 1) := by decide +kernel
theorem dX5_set_5 : decode cX5_set 5 = .ok (.aload_n 0, 1) := by decide +kernel
theorem dX5_set_6 : decode cX5_set 6 = .ok (.getfield 7, 3) := by decide +kernel
theorem dX5_set_9 : decode cX5_set 9 = .ok (.if_icmp .ge 29, 3) := by decide +kernel
theorem dX5_set_12 : decode cX5_set 12 = .ok (.iload_n 2, 1) := by decide +kernel
theorem dX5_set_13 : decode cX5_set 13 = .ok (.ifCond .lt 25, 3) := by decide +kernel
theorem dX5_set_16 : decode cX5_set 16 = .ok (.iload_n 2, 1) := by decide +kernel
theorem dX5_set_17 : decode cX5_set 17 = .ok (.aload_n 0, 1) := by decide +kernel
theorem dX5_set_18 : decode cX5_set 18 = .ok (.getfield 13, 3) := by decide +kernel
theorem dX5_set_21 : decode cX5_set 21 = .ok (.if_icmp .ge 17, 3) := by decide +kernel
theorem dX5_set_24 : decode cX5_set 24 = .ok (.aload_n 0, 1) := by decide +kernel
theorem dX5_set_25 : decode cX5_set 25 = .ok (.getfield 25, 3) := by decide +kernel
theorem dX5_set_28 : decode cX5_set 28 = .ok (.iload_n 1, 1) := by decide +kernel
theorem dX5_set_29 : decode cX5_set 29 = .ok (.aload_n 0, 1) := by decide +kernel
theorem dX5_set_30 : decode cX5_set 30 = .ok (.getfield 13, 3) := by decide +kernel
theorem dX5_set_33 : decode cX5_set 33 = .ok (.imul, 1) := by decide +kernel
theorem dX5_set_34 : decode cX5_set 34 = .ok (.iload_n 2, 1) := by decide +kernel
theorem dX5_set_35 : decode cX5_set 35 = .ok (.iadd, 1) := by decide +kernel
theorem dX5_set_36 : decode cX5_set 36 = .ok (.iload_n 3, 1) := by decide +kernel
theorem dX5_set_37 : decode cX5_set 37 = .ok (.iastore, 1) := by decide +kernel
theorem dX5_set_38 : decode cX5_set 38 = .ok (.return_, 1) := by decide +kernel
theorem dX5_sum_0 : decode cX5_sum 0 = .ok (.iconst 0, 1) := by decide +kernel
theorem dX5_sum_1 : decode cX5_sum 1 = .ok (.istore_n 2, 1) := by decide +kernel
theorem dX5_sum_2 : decode cX5_sum 2 = .ok (.iconst 0, 1) := by decide +kernel
theorem dX5_sum_3 : decode cX5_sum 3 = .ok (.istore_n 3, 1) := by decide +kernel
theorem dX5_sum_4 : decode cX5_sum 4 = .ok (.iload_n 3, 1) := by decide +kernel
theorem dX5_sum_5 : decode cX5_sum 5 = .ok (.aload_n 0, 1) := by decide +kernel
theorem dX5_sum_6 : decode cX5_sum 6 = .ok (.getfield 7, 3) := by decide +kernel
theorem dX5_sum_9 : decode cX5_sum 9 = .ok (.if_icmp .ge 18, 3) := by decide +kernel
theorem dX5_sum_12 : decode cX5_sum 12 = .ok (.iload_n 2, 1) := by decide +kernel
theorem dX5_sum_13 : decode cX5_sum 13 = .ok (.aload_n 0, 1) := by decide +kernel
theorem dX5_sum_14 : decode cX5_sum 14 = .ok (.iload_n 3, 1) := by decide +kernel
theorem dX5_sum_15 : decode cX5_sum 15 = .ok (.iload_n 1, 1) := by decide +kernel
theorem dX5_sum_16 : decode cX5_sum 16 = .ok (.invokevirtual 29, 3) := by decide +kernel
theorem dX5_sum_19 : decode cX5_sum 19 = .ok (.iadd, 1) := by decide +kernel
theorem dX5_sum_20 : decode cX5_sum 20 = .ok (.istore_n 2, 1) := by decide +kernel
theorem dX5_sum_21 : decode cX5_sum 21 = .ok (.iinc 3 1, 3) := by decide +kernel
theorem dX5_sum_24 : decode cX5_sum 24 = .ok (.goto (-20), 3) := by decide +kernel
theorem dX5_sum_27 : decode cX5_sum 27 = .ok (.iload_n 2, 1) := by decide +kernel
theorem dX5_sum_28 : decode cX5_sum 28 = .ok (.ireturn, 1) := by decide +kernel
theorem dX5_clear_0 : decode cX5_clear 0 = .ok (.aload_n 0, 1) := by decide +kernel
theorem dX5_clear_1 : decode cX5_clear 1 = .ok (.iconst 0, 1) := by decide +kernel
theorem dX5_clear_2 : decode cX5_clear 2 = .ok (.putfield 7, 3) := by decide +kernel
theorem dX5_clear_5 : decode cX5_clear 5 = .ok (.return_, 1) := by decide +kernel
theorem dX5_copyFrom_0 : decode cX5_copyFrom 0 = .ok (.aload_n 1, 1) := by decide +kernel
theorem dX5_copyFrom_1 : decode cX5_copyFrom 1 = .ok (.getfield 25, 3) := by decide +kernel
theorem dX5_copyFrom_4 : decode cX5_copyFrom 4 = .ok (.iconst 0, 1) := by decide +kernel
theorem dX5_copyFrom_5 : decode cX5_copyFrom 5 = .ok (.aload_n 0, 1) := by decide +kernel
theorem dX5_copyFrom_6 : decode cX5_copyFrom 6 = .ok (.getfield 25, 3) := by decide +kernel
theorem dX5_copyFrom_9 : decode cX5_copyFrom 9 = .ok (.iconst 0, 1) := by decide +kernel
theorem dX5_copyFrom_10 : decode cX5_copyFrom 10 = .ok (.aload_n 0, 1) := by decide +kernel
theorem dX5_copyFrom_11 : decode cX5_copyFrom 11 = .ok (.getfield 25, 3) := by decide +kernel
theorem dX5_copyFrom_14 : decode cX5_copyFrom 14 = .ok (.arraylength, 1) := by decide +kernel
theorem dX5_copyFrom_15 : decode cX5_copyFrom 15 = .ok (.aload_n 1, 1) := by decide +kernel
theorem dX5_copyFrom_16 : decode cX5_copyFrom 16 = .ok (.getfield 25, 3) := by decide +kernel
theorem dX5_copyFrom_19 : decode cX5_copyFrom 19 = .ok (.arraylength, 1) := by decide +kernel
theorem dX5_copyFrom_20 : decode cX5_copyFrom 20 = .ok (.invokestatic 32, 3) := by decide +kernel
theorem dX5_copyFrom_23 : decode cX5_copyFrom 23 = .ok (.invokestatic 35, 3) := by decide +kernel
theorem dX5_copyFrom_26 : decode cX5_copyFrom 26 = .ok (.aload_n 0, 1) := by decide +kernel
theorem dX5_copyFrom_27 : decode cX5_copyFrom 27 = .ok (.aload_n 1, 1) := by decide +kernel
theorem dX5_copyFrom_28 : decode cX5_copyFrom 28 = .ok (.getfield 7, 3) := by decide +kernel
theorem dX5_copyFrom_31 : decode cX5_copyFrom 31 = .ok (.putfield 7, 3) := by decide +kernel
theorem dX5_copyFrom_34 : decode cX5_copyFrom 34 = .ok (.return_, 1) := by decide +kernel
theorem dX6_init_0 : decode cX6_init 0 = .ok (.aload_n 0, 1) := by decide +kernel
theorem dX6_init_1 : decode cX6_init 1 = .ok (.invokespecial 1, 3) := by decide +kernel
theorem dX6_init_4 : decode cX6_init 4 = .ok (.aload_n 0, 1) := by decide +kernel
theorem dX6_init_5 : decode cX6_init 5 = .ok (.bipush 30, 2) := by decide +kernel
theorem dX6_init_7 : decode cX6_init 7 = .ok (.newarray .int, 2) := by decide +kernel
theorem dX6_init_9 : decode cX6_init 9 = .ok (.putfield 9, 3) := by decide +kernel
theorem dX6_init_12 : decode cX6_init 12 = .ok (.aload_n 0, 1) := by decide +kernel
theorem dX6_init_13 : decode cX6_init 13 = .ok (.iconst 0, 1) := by decide +kernel
theorem dX6_init_14 : decode cX6_init 14 = .ok (.putfield 13, 3) := by decide +kernel
theorem dX6_init_17 : decode cX6_init 17 = .ok (.aload_n 0, 1) := by decide +kernel
theorem dX6_init_18 : decode cX6_init 18 = .ok (.iconst 0, 1) := by decide +kernel
theorem dX6_init_19 : decode cX6_init 19 = .ok (.putfield 17, 3) := by decide +kernel
theorem dX6_init_22 : decode cX6_init 22 = .ok (.aload_n 0, 1) := by decide +kernel
theorem dX6_init_23 : decode cX6_init 23 = .ok (.iconst 0, 1) := by decide +kernel
theorem dX6_init_24 : decode cX6_init 24 = .ok (.putfield 21, 3) := by decide +kernel
theorem dX6_init_27 : decode cX6_init 27 = .ok (.aload_n 0, 1) := by decide +kernel
theorem dX6_init_28 : decode cX6_init 28 = .ok (.iconst 0, 1) := by decide +kernel
theorem dX6_init_29 : decode cX6_init 29 = .ok (.putfield 24, 3) := by decide +kernel
theorem dX6_init_32 : decode cX6_init 32 = .ok (.aload_n 0, 1) := by decide +kernel
theorem dX6_init_33 : decode cX6_init 33 = .ok (.iconst 0, 1) := by decide +kernel
theorem dX6_init_34 : decode cX6_init 34 = .ok (.putfield 27, 3) := by decide +kernel
theorem dX6_init_37 : decode cX6_init 37 = .ok (.return_, 1) := by decide +kernel
theorem dX6_isUnder_0 : decode cX6_isUnder 0 = .ok (.iload_n 0, 1) := by decide +kernel
theorem dX6_isUnder_1 : decode cX6_isUnder 1 = .ok (.istore_n 2, 1) := by decide +kernel
theorem dX6_isUnder_2 : decode cX6_isUnder 2 = .ok (.iconst 0, 1) := by decide +kernel
theorem dX6_isUnder_3 : decode cX6_isUnder 3 = .ok (.istore_n 3, 1) := by decide +kernel
theorem dX6_isUnder_4 : decode cX6_isUnder 4 = .ok (.iload_n 3, 1) := by decide +kernel
theorem dX6_isUnder_5 : decode cX6_isUnder 5 = .ok (.getstatic 30, 3) := by decide +kernel
theorem dX6_isUnder_8 : decode cX6_isUnder 8 = .ok (.arraylength, 1) := by decide +kernel
theorem dX6_isUnder_9 : decode cX6_isUnder 9 = .ok (.if_icmp .ge 34, 3) := by decide +kernel
theorem dX6_isUnder_12 : decode cX6_isUnder 12 = .ok (.iload_n 2, 1) := by decide +kernel
theorem dX6_isUnder_13 : decode cX6_isUnder 13 = .ok (.ifCond .lt 30, 3) := by decide +kernel
theorem dX6_isUnder_16 : decode cX6_isUnder 16 = .ok (.iload_n 2, 1) := by decide +kernel
theorem dX6_isUnder_17 : decode cX6_isUnder 17 = .ok (.getstatic 30, 3) := by decide +kernel
theorem dX6_isUnder_20 : decode cX6_isUnder 20 = .ok (.arraylength, 1) := by decide +kernel
theorem dX6_isUnder_21 : decode cX6_isUnder 21 = .ok (.if_icmp .ge 22, 3) := by decide +kernel
theorem dX6_isUnder_24 : decode cX6_isUnder 24 = .ok (.iload_n 2, 1) := by decide +kernel
theorem dX6_isUnder_25 : decode cX6_isUnder 25 = .ok (.iload_n 1, 1) := by decide +kernel
theorem dX6_isUnder_26 : decode cX6_isUnder 26 = .ok (.if_icmp .ne 5, 3) := by decide +kernel
theorem dX6_isUnder_29 : decode cX6_isUnder 29 = .ok (.iconst 1, 1) := by decide +kernel
theorem dX6_isUnder_30 : decode cX6_isUnder 30 = .ok (.ireturn, 1) := by decide +kernel
theorem dX6_isUnder_31 : decode cX6_isUnder 31 = .ok (.getstatic 30, 3) := by decide +kernel
theorem dX6_isUnder_34 : decode cX6_isUnder 34 = .ok (.iload_n 2, 1) := by decide +kernel
theorem dX6_isUnder_35 : decode cX6_isUnder 35 = .ok (.iaload, 1) := by decide +kernel
theorem dX6_isUnder_36 : decode cX6_isUnder 36 = .ok (.istore_n 2, 1) := by decide +kernel
theorem dX6_isUnder_37 : decode cX6_isUnder 37 = .ok (.iinc 3 1, 3) := by decide +kernel
theorem dX6_isUnder_40 : decode cX6_isUnder 40 = .ok (.goto (-36), 3) := by decide +kernel
theorem dX6_isUnder_43 : decode cX6_isUnder 43 = .ok (.iconst 0, 1) := by decide +kernel
theorem dX6_isUnder_44 : decode cX6_isUnder 44 = .ok (.ireturn, 1) := by decide +kernel
theorem dX6_speak_0 : decode cX6_speak 0 = .ok (.aload_n 0, 1) := by decide +kernel
theorem dX6_speak_1 : decode cX6_speak 1 = .ok (.iload_n 1, 1) := by decide +kernel
theorem dX6_speak_2 : decode cX6_speak 2 = .ok (.putfield 21, 3) := by decide +kernel
theorem dX6_speak_5 : decode cX6_speak 5 = .ok (.aload_n 0, 1) := by decide +kernel
theorem dX6_speak_6 : decode cX6_speak 6 = .ok (.iload_n 2, 1) := by decide +kernel
theorem dX6_speak_7 : decode cX6_speak 7 = .ok (.putfield 24, 3) := by decide +kernel
theorem dX6_speak_10 : decode cX6_speak 10 = .ok (.aload_n 0, 1) := by decide +kernel
theorem dX6_speak_11 : decode cX6_speak 11 = .ok (.iload_n 3, 1) := by decide +kernel
theorem dX6_speak_12 : decode cX6_speak 12 = .ok (.putfield 27, 3) := by decide +kernel
theorem dX6_speak_15 : decode cX6_speak 15 = .ok (.aload_n 0, 1) := by decide +kernel
theorem dX6_speak_16 : decode cX6_speak 16 = .ok (.iconst 0, 1) := by decide +kernel
theorem dX6_speak_17 : decode cX6_speak 17 = .ok (.putfield 13, 3) := by decide +kernel
theorem dX6_speak_20 : decode cX6_speak 20 = .ok (.aload_n 0, 1) := by decide +kernel
theorem dX6_speak_21 : decode cX6_speak 21 = .ok (.iconst 0, 1) := by decide +kernel
theorem dX6_speak_22 : decode cX6_speak 22 = .ok (.putfield 17, 3) := by decide +kernel
theorem dX6_speak_25 : decode cX6_speak 25 = .ok (.aload_n 0, 1) := by decide +kernel
theorem dX6_speak_26 : decode cX6_speak 26 = .ok (.aload_n 0, 1) := by decide +kernel
theorem dX6_speak_27 : decode cX6_speak 27 = .ok (.getfield 21, 3) := by decide +kernel
theorem dX6_speak_30 : decode cX6_speak 30 = .ok (.iload 4, 2) := by decide +kernel
theorem dX6_speak_32 : decode cX6_speak 32 = .ok (.iload 5, 2) := by decide +kernel
theorem dX6_speak_34 : decode cX6_speak 34 = .ok (.iconst 0, 1) := by decide +kernel
theorem dX6_speak_35 : decode cX6_speak 35 = .ok (.invokevirtual 33, 3) := by decide +kernel
theorem dX6_speak_38 : decode cX6_speak 38 = .ok (.ireturn, 1) := by decide +kernel
theorem dX6_voiceFrom_0 : decode cX6_voiceFrom 0 = .ok (.iload_n 1, 1) := by decide +kernel
theorem dX6_voiceFrom_1 : decode cX6_voiceFrom 1 = .ok (.istore 5, 2) := by decide +kernel
theorem dX6_voiceFrom_3 : decode cX6_voiceFrom 3 = .ok (.iconst 0, 1) := by decide +kernel
theorem dX6_voiceFrom_4 : decode cX6_voiceFrom 4 = .ok (.istore 6, 2) := by decide +kernel
theorem dX6_voiceFrom_6 : decode cX6_voiceFrom 6 = .ok (.iload 6, 2) := by decide +kernel
theorem dX6_voiceFrom_8 : decode cX6_voiceFrom 8 = .ok (.getstatic 30, 3) := by decide +kernel
theorem dX6_voiceFrom_11 : decode cX6_voiceFrom 11 = .ok (.arraylength, 1) := by decide +kernel
theorem dX6_voiceFrom_12 : decode cX6_voiceFrom 12 = .ok (.if_icmp .ge 44, 3) := by decide +kernel
theorem dX6_voiceFrom_15 : decode cX6_voiceFrom 15 = .ok (.iload 5, 2) := by decide +kernel
theorem dX6_voiceFrom_17 : decode cX6_voiceFrom 17 = .ok (.ifCond .le 39, 3) := by decide +kernel
theorem dX6_voiceFrom_20 : decode cX6_voiceFrom 20 = .ok (.iload 5, 2) := by decide +kernel
theorem dX6_voiceFrom_22 : decode cX6_voiceFrom 22 = .ok (.getstatic 30, 3) := by decide +kernel
theorem dX6_voiceFrom_25 : decode cX6_voiceFrom 25 = .ok (.arraylength, 1) := by decide +kernel
theorem dX6_voiceFrom_26 : decode cX6_voiceFrom 26 = .ok (.if_icmp .ge 30, 3) := by decide +kernel
theorem dX6_voiceFrom_29 : decode cX6_voiceFrom 29 = .ok (.getstatic 37, 3) := by decide +kernel
theorem dX6_voiceFrom_32 : decode cX6_voiceFrom 32 = .ok (.iload 5, 2) := by decide +kernel
theorem dX6_voiceFrom_34 : decode cX6_voiceFrom 34 = .ok (.iconst 4, 1) := by decide +kernel
theorem dX6_voiceFrom_35 : decode cX6_voiceFrom 35 = .ok (.imul, 1) := by decide +kernel
theorem dX6_voiceFrom_36 : decode cX6_voiceFrom 36 = .ok (.iload_n 2, 1) := by decide +kernel
theorem dX6_voiceFrom_37 : decode cX6_voiceFrom 37 = .ok (.iadd, 1) := by decide +kernel
theorem dX6_voiceFrom_38 : decode cX6_voiceFrom 38 = .ok (.iaload, 1) := by decide +kernel
theorem dX6_voiceFrom_39 : decode cX6_voiceFrom 39 = .ok (.ifCond .ne 17, 3) := by decide +kernel
theorem dX6_voiceFrom_42 : decode cX6_voiceFrom 42 = .ok (.getstatic 30, 3) := by decide +kernel
theorem dX6_voiceFrom_45 : decode cX6_voiceFrom 45 = .ok (.iload 5, 2) := by decide +kernel
theorem dX6_voiceFrom_47 : decode cX6_voiceFrom 47 = .ok (.iaload, 1) := by decide +kernel
theorem dX6_voiceFrom_48 : decode cX6_voiceFrom 48 = .ok (.istore 5, 2) := by decide +kernel
theorem dX6_voiceFrom_50 : decode cX6_voiceFrom 50 = .ok (.iinc 6 1, 3) := by decide +kernel
theorem dX6_voiceFrom_53 : decode cX6_voiceFrom 53 = .ok (.goto (-47), 3) := by decide +kernel
theorem dX6_voiceFrom_56 : decode cX6_voiceFrom 56 = .ok (.aload_n 0, 1) := by decide +kernel
theorem dX6_voiceFrom_57 : decode cX6_voiceFrom 57 = .ok (.getfield 17, 3) := by decide +kernel
theorem dX6_voiceFrom_60 : decode cX6_voiceFrom 60 = .ok (.ifCond .ne 24, 3) := by decide +kernel
theorem dX6_voiceFrom_63 : decode cX6_voiceFrom 63 = .ok (.iload 4, 2) := by decide +kernel
theorem dX6_voiceFrom_65 : decode cX6_voiceFrom 65 = .ok (.bipush 40, 2) := by decide +kernel
theorem dX6_voiceFrom_67 : decode cX6_voiceFrom 67 = .ok (.if_icmp .gt 17, 3) := by decide +kernel
theorem dX6_voiceFrom_70 : decode cX6_voiceFrom 70 = .ok (.iload 5, 2) := by decide +kernel
theorem dX6_voiceFrom_72 : decode cX6_voiceFrom 72 = .ok (.ifCond .lt 12, 3) := by decide +kernel
theorem dX6_voiceFrom_75 : decode cX6_voiceFrom 75 = .ok (.iload 5, 2) := by decide +kernel
theorem dX6_voiceFrom_77 : decode cX6_voiceFrom 77 = .ok (.getstatic 30, 3) := by decide +kernel
theorem dX6_voiceFrom_80 : decode cX6_voiceFrom 80 = .ok (.arraylength, 1) := by decide +kernel
theorem dX6_voiceFrom_81 : decode cX6_voiceFrom 81 = .ok (.if_icmp .lt 5, 3) := by decide +kernel
theorem dX6_voiceFrom_84 : decode cX6_voiceFrom 84 = .ok (.iconst 0, 1) := by decide +kernel
theorem dX6_voiceFrom_85 : decode cX6_voiceFrom 85 = .ok (.ireturn, 1) := by decide +kernel
theorem dX6_voiceFrom_86 : decode cX6_voiceFrom 86 = .ok (.getstatic 37, 3) := by decide +kernel
theorem dX6_voiceFrom_89 : decode cX6_voiceFrom 89 = .ok (.iload 5, 2) := by decide +kernel
theorem dX6_voiceFrom_91 : decode cX6_voiceFrom 91 = .ok (.iconst 4, 1) := by decide +kernel
theorem dX6_voiceFrom_92 : decode cX6_voiceFrom 92 = .ok (.imul, 1) := by decide +kernel
theorem dX6_voiceFrom_93 : decode cX6_voiceFrom 93 = .ok (.iload_n 2, 1) := by decide +kernel
theorem dX6_voiceFrom_94 : decode cX6_voiceFrom 94 = .ok (.iadd, 1) := by decide +kernel
theorem dX6_voiceFrom_95 : decode cX6_voiceFrom 95 = .ok (.iaload, 1) := by decide +kernel
theorem dX6_voiceFrom_96 : decode cX6_voiceFrom 96 = .ok (.istore 6, 2) := by decide +kernel
theorem dX6_voiceFrom_98 : decode cX6_voiceFrom 98 = .ok (.aload_n 0, 1) := by decide +kernel
theorem dX6_voiceFrom_99 : decode cX6_voiceFrom 99 = .ok (.getfield 13, 3) := by decide +kernel
theorem dX6_voiceFrom_102 : decode cX6_voiceFrom 102 = .ok (.bipush 30, 2) := by decide +kernel
theorem dX6_voiceFrom_104 : decode cX6_voiceFrom 104 = .ok (.if_icmp .ge 24, 3) := by decide +kernel
theorem dX6_voiceFrom_107 : decode cX6_voiceFrom 107 = .ok (.aload_n 0, 1) := by decide +kernel
theorem dX6_voiceFrom_108 : decode cX6_voiceFrom 108 = .ok (.getfield 9, 3) := by decide +kernel
theorem dX6_voiceFrom_111 : decode cX6_voiceFrom 111 = .ok (.aload_n 0, 1) := by decide +kernel
theorem dX6_voiceFrom_112 : decode cX6_voiceFrom 112 = .ok (.getfield 13, 3) := by decide +kernel
theorem dX6_voiceFrom_115 : decode cX6_voiceFrom 115 = .ok (.iload 6, 2) := by decide +kernel
theorem dX6_voiceFrom_117 : decode cX6_voiceFrom 117 = .ok (.iastore, 1) := by decide +kernel
theorem dX6_voiceFrom_118 : decode cX6_voiceFrom 118 = .ok (.aload_n 0, 1) := by decide +kernel
theorem dX6_voiceFrom_119 : decode cX6_voiceFrom 119 = .ok (.dup, 1) := by decide +kernel
theorem dX6_voiceFrom_120 : decode cX6_voiceFrom 120 = .ok (.getfield 13, 3) := by decide +kernel
theorem dX6_voiceFrom_123 : decode cX6_voiceFrom 123 = .ok (.iconst 1, 1) := by decide +kernel
theorem dX6_voiceFrom_124 : decode cX6_voiceFrom 124 = .ok (.iadd, 1) := by decide +kernel
theorem dX6_voiceFrom_125 : decode cX6_voiceFrom 125 = .ok (.putfield 13, 3) := by decide +kernel
theorem dX6_voiceFrom_128 : decode cX6_voiceFrom 128 = .ok (.iload 5, 2) := by decide +kernel
theorem dX6_voiceFrom_130 : decode cX6_voiceFrom 130 = .ok (.ifCond .ne 16, 3) := by decide +kernel
theorem dX6_voiceFrom_133 : decode cX6_voiceFrom 133 = .ok (.aload_n 0, 1) := by decide +kernel
theorem dX6_voiceFrom_134 : decode cX6_voiceFrom 134 = .ok (.iload_n 2, 1) := by decide +kernel
theorem dX6_voiceFrom_135 : decode cX6_voiceFrom 135 = .ok (.iload_n 3, 1) := by decide +kernel
theorem dX6_voiceFrom_136 : decode cX6_voiceFrom 136 = .ok (.iload 4, 2) := by decide +kernel
theorem dX6_voiceFrom_138 : decode cX6_voiceFrom 138 = .ok (.iconst 1, 1) := by decide +kernel
theorem dX6_voiceFrom_139 : decode cX6_voiceFrom 139 = .ok (.iadd, 1) := by decide +kernel
theorem dX6_voiceFrom_140 : decode cX6_voiceFrom 140 = .ok (.invokevirtual 40, 3) := by decide +kernel
theorem dX6_voiceFrom_143 : decode cX6_voiceFrom 143 = .ok (.goto 20, 3) := by decide +kernel
theorem dX6_voiceFrom_146 : decode cX6_voiceFrom 146 = .ok (.aload_n 0, 1) := by decide +kernel
theorem dX6_voiceFrom_147 : decode cX6_voiceFrom 147 = .ok (.iload 6, 2) := by decide +kernel
theorem dX6_voiceFrom_149 : decode cX6_voiceFrom 149 = .ok (.getstatic 30, 3) := by decide +kernel
theorem dX6_voiceFrom_152 : decode cX6_voiceFrom 152 = .ok (.iload 5, 2) := by decide +kernel
theorem dX6_voiceFrom_154 : decode cX6_voiceFrom 154 = .ok (.iaload, 1) := by decide +kernel
theorem dX6_voiceFrom_155 : decode cX6_voiceFrom 155 = .ok (.iload_n 3, 1) := by decide +kernel
theorem dX6_voiceFrom_156 : decode cX6_voiceFrom 156 = .ok (.iload 4, 2) := by decide +kernel
theorem dX6_voiceFrom_158 : decode cX6_voiceFrom 158 = .ok (.iconst 1, 1) := by decide +kernel
theorem dX6_voiceFrom_159 : decode cX6_voiceFrom 159 = .ok (.iadd, 1) := by decide +kernel
theorem dX6_voiceFrom_160 : decode cX6_voiceFrom 160 = .ok (.invokevirtual 44, 3) := by decide +kernel
theorem dX6_voiceFrom_163 : decode cX6_voiceFrom 163 = .ok (.ireturn, 1) := by decide +kernel
theorem dX6_ofCurve_0 : decode cX6_ofCurve 0 = .ok (.iload_n 1, 1) := by decide +kernel
theorem dX6_ofCurve_1 : decode cX6_ofCurve 1 = .ok (.tableswitch 65 0 2 #[27, 34, 48], 27) := by decide +kernel
theorem dX6_ofCurve_28 : decode cX6_ofCurve 28 = .ok (.iload_n 2, 1) := by decide +kernel
theorem dX6_ofCurve_29 : decode cX6_ofCurve 29 = .ok (.aload_n 0, 1) := by decide +kernel
theorem dX6_ofCurve_30 : decode cX6_ofCurve 30 = .ok (.getfield 27, 3) := by decide +kernel
theorem dX6_ofCurve_33 : decode cX6_ofCurve 33 = .ok (.iadd, 1) := by decide +kernel
theorem dX6_ofCurve_34 : decode cX6_ofCurve 34 = .ok (.ireturn, 1) := by decide +kernel
theorem dX6_ofCurve_35 : decode cX6_ofCurve 35 = .ok (.aload_n 0, 1) := by decide +kernel
theorem dX6_ofCurve_36 : decode cX6_ofCurve 36 = .ok (.aload_n 0, 1) := by decide +kernel
theorem dX6_ofCurve_37 : decode cX6_ofCurve 37 = .ok (.getfield 21, 3) := by decide +kernel
theorem dX6_ofCurve_40 : decode cX6_ofCurve 40 = .ok (.iconst 0, 1) := by decide +kernel
theorem dX6_ofCurve_41 : decode cX6_ofCurve 41 = .ok (.iload_n 2, 1) := by decide +kernel
theorem dX6_ofCurve_42 : decode cX6_ofCurve 42 = .ok (.iload_n 3, 1) := by decide +kernel
theorem dX6_ofCurve_43 : decode cX6_ofCurve 43 = .ok (.invokevirtual 33, 3) := by decide +kernel
theorem dX6_ofCurve_46 : decode cX6_ofCurve 46 = .ok (.iconst 2, 1) := by decide +kernel
theorem dX6_ofCurve_47 : decode cX6_ofCurve 47 = .ok (.imul, 1) := by decide +kernel
theorem dX6_ofCurve_48 : decode cX6_ofCurve 48 = .ok (.ireturn, 1) := by decide +kernel
theorem dX6_ofCurve_49 : decode cX6_ofCurve 49 = .ok (.aload_n 0, 1) := by decide +kernel
theorem dX6_ofCurve_50 : decode cX6_ofCurve 50 = .ok (.aload_n 0, 1) := by decide +kernel
theorem dX6_ofCurve_51 : decode cX6_ofCurve 51 = .ok (.getfield 21, 3) := by decide +kernel
theorem dX6_ofCurve_54 : decode cX6_ofCurve 54 = .ok (.iconst 1, 1) := by decide +kernel
theorem dX6_ofCurve_55 : decode cX6_ofCurve 55 = .ok (.iload_n 2, 1) := by decide +kernel
theorem dX6_ofCurve_56 : decode cX6_ofCurve 56 = .ok (.iload_n 3, 1) := by decide +kernel
theorem dX6_ofCurve_57 : decode cX6_ofCurve 57 = .ok (.invokevirtual 33, 3) := by decide +kernel
theorem dX6_ofCurve_60 : decode cX6_ofCurve 60 = .ok (.aload_n 0, 1) := by decide +kernel
theorem dX6_ofCurve_61 : decode cX6_ofCurve 61 = .ok (.getfield 24, 3) := by decide +kernel
theorem dX6_ofCurve_64 : decode cX6_ofCurve 64 = .ok (.isub, 1) := by decide +kernel
theorem dX6_ofCurve_65 : decode cX6_ofCurve 65 = .ok (.ireturn, 1) := by decide +kernel
theorem dX6_ofCurve_66 : decode cX6_ofCurve 66 = .ok (.aload_n 0, 1) := by decide +kernel
theorem dX6_ofCurve_67 : decode cX6_ofCurve 67 = .ok (.aload_n 0, 1) := by decide +kernel
theorem dX6_ofCurve_68 : decode cX6_ofCurve 68 = .ok (.getfield 27, 3) := by decide +kernel
theorem dX6_ofCurve_71 : decode cX6_ofCurve 71 = .ok (.aload_n 0, 1) := by decide +kernel
theorem dX6_ofCurve_72 : decode cX6_ofCurve 72 = .ok (.getfield 24, 3) := by decide +kernel
theorem dX6_ofCurve_75 : decode cX6_ofCurve 75 = .ok (.if_icmp .ne 7, 3) := by decide +kernel
theorem dX6_ofCurve_78 : decode cX6_ofCurve 78 = .ok (.iconst 1, 1) := by decide +kernel
theorem dX6_ofCurve_79 : decode cX6_ofCurve 79 = .ok (.goto 4, 3) := by decide +kernel
theorem dX6_ofCurve_82 : decode cX6_ofCurve 82 = .ok (.iconst 0, 1) := by decide +kernel
theorem dX6_ofCurve_83 : decode cX6_ofCurve 83 = .ok (.putfield 17, 3) := by decide +kernel
theorem dX6_ofCurve_86 : decode cX6_ofCurve 86 = .ok (.aload_n 0, 1) := by decide +kernel
theorem dX6_ofCurve_87 : decode cX6_ofCurve 87 = .ok (.getfield 17, 3) := by decide +kernel
theorem dX6_ofCurve_90 : decode cX6_ofCurve 90 = .ok (.ifCond .eq 7, 3) := by decide +kernel
theorem dX6_ofCurve_93 : decode cX6_ofCurve 93 = .ok (.iconst 0, 1) := by decide +kernel
theorem dX6_ofCurve_94 : decode cX6_ofCurve 94 = .ok (.goto 14, 3) := by decide +kernel
theorem dX6_ofCurve_97 : decode cX6_ofCurve 97 = .ok (.iload_n 2, 1) := by decide +kernel
theorem dX6_ofCurve_98 : decode cX6_ofCurve 98 = .ok (.aload_n 0, 1) := by decide +kernel
theorem dX6_ofCurve_99 : decode cX6_ofCurve 99 = .ok (.getfield 27, 3) := by decide +kernel
theorem dX6_ofCurve_102 : decode cX6_ofCurve 102 = .ok (.aload_n 0, 1) := by decide +kernel
theorem dX6_ofCurve_103 : decode cX6_ofCurve 103 = .ok (.getfield 24, 3) := by decide +kernel
theorem dX6_ofCurve_106 : decode cX6_ofCurve 106 = .ok (.isub, 1) := by decide +kernel
theorem dX6_ofCurve_107 : decode cX6_ofCurve 107 = .ok (.idiv, 1) := by decide +kernel
theorem dX6_ofCurve_108 : decode cX6_ofCurve 108 = .ok (.ireturn, 1) := by decide +kernel
theorem dX6_ofKindUnder_0 : decode cX6_ofKindUnder 0 = .ok (.iload_n 1, 1) := by decide +kernel
theorem dX6_ofKindUnder_1 : decode cX6_ofKindUnder 1 = .ok (.lookupswitch 284 #[(20, 99), (21, 111), (30, 126), (31, 138), (40, 150), (41, 162), (50, 185), (60, 197), (61, 212), (70, 235), (80, 261)], 99) := by decide +kernel
theorem dX6_ofKindUnder_100 : decode cX6_ofKindUnder 100 = .ok (.aload_n 0, 1) := by decide +kernel
theorem dX6_ofKindUnder_101 : decode cX6_ofKindUnder 101 = .ok (.iload_n 2, 1) := by decide +kernel
theorem dX6_ofKindUnder_102 : decode cX6_ofKindUnder 102 = .ok (.iconst 1, 1) := by decide +kernel
theorem dX6_ofKindUnder_103 : decode cX6_ofKindUnder 103 = .ok (.iload_n 3, 1) := by decide +kernel
theorem dX6_ofKindUnder_104 : decode cX6_ofKindUnder 104 = .ok (.iload 4, 2) := by decide +kernel
theorem dX6_ofKindUnder_106 : decode cX6_ofKindUnder 106 = .ok (.invokevirtual 33, 3) := by decide +kernel
theorem dX6_ofKindUnder_109 : decode cX6_ofKindUnder 109 = .ok (.iconst 3, 1) := by decide +kernel
theorem dX6_ofKindUnder_110 : decode cX6_ofKindUnder 110 = .ok (.iadd, 1) := by decide +kernel
theorem dX6_ofKindUnder_111 : decode cX6_ofKindUnder 111 = .ok (.ireturn, 1) := by decide +kernel
theorem dX6_ofKindUnder_112 : decode cX6_ofKindUnder 112 = .ok (.aload_n 0, 1) := by decide +kernel
theorem dX6_ofKindUnder_113 : decode cX6_ofKindUnder 113 = .ok (.iload_n 2, 1) := by decide +kernel
theorem dX6_ofKindUnder_114 : decode cX6_ofKindUnder 114 = .ok (.iconst 2, 1) := by decide +kernel
theorem dX6_ofKindUnder_115 : decode cX6_ofKindUnder 115 = .ok (.iload_n 3, 1) := by decide +kernel
theorem dX6_ofKindUnder_116 : decode cX6_ofKindUnder 116 = .ok (.iload 4, 2) := by decide +kernel
theorem dX6_ofKindUnder_118 : decode cX6_ofKindUnder 118 = .ok (.invokevirtual 33, 3) := by decide +kernel
theorem dX6_ofKindUnder_121 : decode cX6_ofKindUnder 121 = .ok (.aload_n 0, 1) := by decide +kernel
theorem dX6_ofKindUnder_122 : decode cX6_ofKindUnder 122 = .ok (.getfield 27, 3) := by decide +kernel
theorem dX6_ofKindUnder_125 : decode cX6_ofKindUnder 125 = .ok (.ixor, 1) := by decide +kernel
theorem dX6_ofKindUnder_126 : decode cX6_ofKindUnder 126 = .ok (.ireturn, 1) := by decide +kernel
theorem dX6_ofKindUnder_127 : decode cX6_ofKindUnder 127 = .ok (.aload_n 0, 1) := by decide +kernel
theorem dX6_ofKindUnder_128 : decode cX6_ofKindUnder 128 = .ok (.iload_n 2, 1) := by decide +kernel
theorem dX6_ofKindUnder_129 : decode cX6_ofKindUnder 129 = .ok (.iconst 0, 1) := by decide +kernel
theorem dX6_ofKindUnder_130 : decode cX6_ofKindUnder 130 = .ok (.iload_n 3, 1) := by decide +kernel
theorem dX6_ofKindUnder_131 : decode cX6_ofKindUnder 131 = .ok (.iload 4, 2) := by decide +kernel
theorem dX6_ofKindUnder_133 : decode cX6_ofKindUnder 133 = .ok (.invokevirtual 33, 3) := by decide +kernel
theorem dX6_ofKindUnder_136 : decode cX6_ofKindUnder 136 = .ok (.iconst 2, 1) := by decide +kernel
theorem dX6_ofKindUnder_137 : decode cX6_ofKindUnder 137 = .ok (.idiv, 1) := by decide +kernel
theorem dX6_ofKindUnder_138 : decode cX6_ofKindUnder 138 = .ok (.ireturn, 1) := by decide +kernel
theorem dX6_ofKindUnder_139 : decode cX6_ofKindUnder 139 = .ok (.aload_n 0, 1) := by decide +kernel
theorem dX6_ofKindUnder_140 : decode cX6_ofKindUnder 140 = .ok (.iload_n 2, 1) := by decide +kernel
theorem dX6_ofKindUnder_141 : decode cX6_ofKindUnder 141 = .ok (.iconst 1, 1) := by decide +kernel
theorem dX6_ofKindUnder_142 : decode cX6_ofKindUnder 142 = .ok (.iload_n 3, 1) := by decide +kernel
theorem dX6_ofKindUnder_143 : decode cX6_ofKindUnder 143 = .ok (.iconst 1, 1) := by decide +kernel
theorem dX6_ofKindUnder_144 : decode cX6_ofKindUnder 144 = .ok (.isub, 1) := by decide +kernel
theorem dX6_ofKindUnder_145 : decode cX6_ofKindUnder 145 = .ok (.iload 4, 2) := by decide +kernel
theorem dX6_ofKindUnder_147 : decode cX6_ofKindUnder 147 = .ok (.invokevirtual 33, 3) := by decide +kernel
theorem dX6_ofKindUnder_150 : decode cX6_ofKindUnder 150 = .ok (.ireturn, 1) := by decide +kernel
theorem dX6_ofKindUnder_151 : decode cX6_ofKindUnder 151 = .ok (.iconst 0, 1) := by decide +kernel
theorem dX6_ofKindUnder_152 : decode cX6_ofKindUnder 152 = .ok (.aload_n 0, 1) := by decide +kernel
theorem dX6_ofKindUnder_153 : decode cX6_ofKindUnder 153 = .ok (.iload_n 2, 1) := by decide +kernel
theorem dX6_ofKindUnder_154 : decode cX6_ofKindUnder 154 = .ok (.iconst 0, 1) := by decide +kernel
theorem dX6_ofKindUnder_155 : decode cX6_ofKindUnder 155 = .ok (.iload_n 3, 1) := by decide +kernel
theorem dX6_ofKindUnder_156 : decode cX6_ofKindUnder 156 = .ok (.iload 4, 2) := by decide +kernel
theorem dX6_ofKindUnder_158 : decode cX6_ofKindUnder 158 = .ok (.invokevirtual 33, 3) := by decide +kernel
theorem dX6_ofKindUnder_161 : decode cX6_ofKindUnder 161 = .ok (.isub, 1) := by decide +kernel
theorem dX6_ofKindUnder_162 : decode cX6_ofKindUnder 162 = .ok (.ireturn, 1) := by decide +kernel
theorem dX6_ofKindUnder_163 : decode cX6_ofKindUnder 163 = .ok (.aload_n 0, 1) := by decide +kernel
theorem dX6_ofKindUnder_164 : decode cX6_ofKindUnder 164 = .ok (.iload_n 2, 1) := by decide +kernel
theorem dX6_ofKindUnder_165 : decode cX6_ofKindUnder 165 = .ok (.iconst 3, 1) := by decide +kernel
theorem dX6_ofKindUnder_166 : decode cX6_ofKindUnder 166 = .ok (.iload_n 3, 1) := by decide +kernel
theorem dX6_ofKindUnder_167 : decode cX6_ofKindUnder 167 = .ok (.iload 4, 2) := by decide +kernel
theorem dX6_ofKindUnder_169 : decode cX6_ofKindUnder 169 = .ok (.invokevirtual 33, 3) := by decide +kernel
theorem dX6_ofKindUnder_172 : decode cX6_ofKindUnder 172 = .ok (.aload_n 0, 1) := by decide +kernel
theorem dX6_ofKindUnder_173 : decode cX6_ofKindUnder 173 = .ok (.aload_n 0, 1) := by decide +kernel
theorem dX6_ofKindUnder_174 : decode cX6_ofKindUnder 174 = .ok (.getfield 21, 3) := by decide +kernel
theorem dX6_ofKindUnder_177 : decode cX6_ofKindUnder 177 = .ok (.iconst 2, 1) := by decide +kernel
theorem dX6_ofKindUnder_178 : decode cX6_ofKindUnder 178 = .ok (.iconst 1, 1) := by decide +kernel
theorem dX6_ofKindUnder_179 : decode cX6_ofKindUnder 179 = .ok (.iload 4, 2) := by decide +kernel
theorem dX6_ofKindUnder_181 : decode cX6_ofKindUnder 181 = .ok (.invokevirtual 33, 3) := by decide +kernel
theorem dX6_ofKindUnder_184 : decode cX6_ofKindUnder 184 = .ok (.iadd, 1) := by decide +kernel
theorem dX6_ofKindUnder_185 : decode cX6_ofKindUnder 185 = .ok (.ireturn, 1) := by decide +kernel
theorem dX6_ofKindUnder_186 : decode cX6_ofKindUnder 186 = .ok (.aload_n 0, 1) := by decide +kernel
theorem dX6_ofKindUnder_187 : decode cX6_ofKindUnder 187 = .ok (.iload_n 2, 1) := by decide +kernel
theorem dX6_ofKindUnder_188 : decode cX6_ofKindUnder 188 = .ok (.iconst 2, 1) := by decide +kernel
theorem dX6_ofKindUnder_189 : decode cX6_ofKindUnder 189 = .ok (.iload_n 3, 1) := by decide +kernel
theorem dX6_ofKindUnder_190 : decode cX6_ofKindUnder 190 = .ok (.iload 4, 2) := by decide +kernel
theorem dX6_ofKindUnder_192 : decode cX6_ofKindUnder 192 = .ok (.invokevirtual 33, 3) := by decide +kernel
theorem dX6_ofKindUnder_195 : decode cX6_ofKindUnder 195 = .ok (.iconst 3, 1) := by decide +kernel
theorem dX6_ofKindUnder_196 : decode cX6_ofKindUnder 196 = .ok (.imul, 1) := by decide +kernel
theorem dX6_ofKindUnder_197 : decode cX6_ofKindUnder 197 = .ok (.ireturn, 1) := by decide +kernel
theorem dX6_ofKindUnder_198 : decode cX6_ofKindUnder 198 = .ok (.aload_n 0, 1) := by decide +kernel
theorem dX6_ofKindUnder_199 : decode cX6_ofKindUnder 199 = .ok (.iload_n 2, 1) := by decide +kernel
theorem dX6_ofKindUnder_200 : decode cX6_ofKindUnder 200 = .ok (.iconst 0, 1) := by decide +kernel
theorem dX6_ofKindUnder_201 : decode cX6_ofKindUnder 201 = .ok (.iload_n 3, 1) := by decide +kernel
theorem dX6_ofKindUnder_202 : decode cX6_ofKindUnder 202 = .ok (.aload_n 0, 1) := by decide +kernel
theorem dX6_ofKindUnder_203 : decode cX6_ofKindUnder 203 = .ok (.getfield 24, 3) := by decide +kernel
theorem dX6_ofKindUnder_206 : decode cX6_ofKindUnder 206 = .ok (.iadd, 1) := by decide +kernel
theorem dX6_ofKindUnder_207 : decode cX6_ofKindUnder 207 = .ok (.iload 4, 2) := by decide +kernel
theorem dX6_ofKindUnder_209 : decode cX6_ofKindUnder 209 = .ok (.invokevirtual 33, 3) := by decide +kernel
theorem dX6_ofKindUnder_212 : decode cX6_ofKindUnder 212 = .ok (.ireturn, 1) := by decide +kernel
theorem dX6_ofKindUnder_213 : decode cX6_ofKindUnder 213 = .ok (.aload_n 0, 1) := by decide +kernel
theorem dX6_ofKindUnder_214 : decode cX6_ofKindUnder 214 = .ok (.iload_n 2, 1) := by decide +kernel
theorem dX6_ofKindUnder_215 : decode cX6_ofKindUnder 215 = .ok (.iconst 2, 1) := by decide +kernel
theorem dX6_ofKindUnder_216 : decode cX6_ofKindUnder 216 = .ok (.iload_n 3, 1) := by decide +kernel
theorem dX6_ofKindUnder_217 : decode cX6_ofKindUnder 217 = .ok (.iload 4, 2) := by decide +kernel
theorem dX6_ofKindUnder_219 : decode cX6_ofKindUnder 219 = .ok (.invokevirtual 33, 3) := by decide +kernel
theorem dX6_ofKindUnder_222 : decode cX6_ofKindUnder 222 = .ok (.aload_n 0, 1) := by decide +kernel
theorem dX6_ofKindUnder_223 : decode cX6_ofKindUnder 223 = .ok (.aload_n 0, 1) := by decide +kernel
theorem dX6_ofKindUnder_224 : decode cX6_ofKindUnder 224 = .ok (.getfield 21, 3) := by decide +kernel
theorem dX6_ofKindUnder_227 : decode cX6_ofKindUnder 227 = .ok (.iconst 0, 1) := by decide +kernel
theorem dX6_ofKindUnder_228 : decode cX6_ofKindUnder 228 = .ok (.iconst 2, 1) := by decide +kernel
theorem dX6_ofKindUnder_229 : decode cX6_ofKindUnder 229 = .ok (.iload 4, 2) := by decide +kernel
theorem dX6_ofKindUnder_231 : decode cX6_ofKindUnder 231 = .ok (.invokevirtual 33, 3) := by decide +kernel
theorem dX6_ofKindUnder_234 : decode cX6_ofKindUnder 234 = .ok (.isub, 1) := by decide +kernel
theorem dX6_ofKindUnder_235 : decode cX6_ofKindUnder 235 = .ok (.ireturn, 1) := by decide +kernel
theorem dX6_ofKindUnder_236 : decode cX6_ofKindUnder 236 = .ok (.aload_n 0, 1) := by decide +kernel
theorem dX6_ofKindUnder_237 : decode cX6_ofKindUnder 237 = .ok (.iload_n 2, 1) := by decide +kernel
theorem dX6_ofKindUnder_238 : decode cX6_ofKindUnder 238 = .ok (.iconst 2, 1) := by decide +kernel
theorem dX6_ofKindUnder_239 : decode cX6_ofKindUnder 239 = .ok (.iload_n 3, 1) := by decide +kernel
theorem dX6_ofKindUnder_240 : decode cX6_ofKindUnder 240 = .ok (.iload 4, 2) := by decide +kernel
theorem dX6_ofKindUnder_242 : decode cX6_ofKindUnder 242 = .ok (.invokevirtual 33, 3) := by decide +kernel
theorem dX6_ofKindUnder_245 : decode cX6_ofKindUnder 245 = .ok (.aload_n 0, 1) := by decide +kernel
theorem dX6_ofKindUnder_246 : decode cX6_ofKindUnder 246 = .ok (.aload_n 0, 1) := by decide +kernel
theorem dX6_ofKindUnder_247 : decode cX6_ofKindUnder 247 = .ok (.getfield 21, 3) := by decide +kernel
theorem dX6_ofKindUnder_250 : decode cX6_ofKindUnder 250 = .ok (.iconst 1, 1) := by decide +kernel
theorem dX6_ofKindUnder_251 : decode cX6_ofKindUnder 251 = .ok (.aload_n 0, 1) := by decide +kernel
theorem dX6_ofKindUnder_252 : decode cX6_ofKindUnder 252 = .ok (.getfield 24, 3) := by decide +kernel
theorem dX6_ofKindUnder_255 : decode cX6_ofKindUnder 255 = .ok (.iload 4, 2) := by decide +kernel
theorem dX6_ofKindUnder_257 : decode cX6_ofKindUnder 257 = .ok (.invokevirtual 33, 3) := by decide +kernel
theorem dX6_ofKindUnder_260 : decode cX6_ofKindUnder 260 = .ok (.iadd, 1) := by decide +kernel
theorem dX6_ofKindUnder_261 : decode cX6_ofKindUnder 261 = .ok (.ireturn, 1) := by decide +kernel
theorem dX6_ofKindUnder_262 : decode cX6_ofKindUnder 262 = .ok (.aload_n 0, 1) := by decide +kernel
theorem dX6_ofKindUnder_263 : decode cX6_ofKindUnder 263 = .ok (.aload_n 0, 1) := by decide +kernel
theorem dX6_ofKindUnder_264 : decode cX6_ofKindUnder 264 = .ok (.getfield 21, 3) := by decide +kernel
theorem dX6_ofKindUnder_267 : decode cX6_ofKindUnder 267 = .ok (.iconst 2, 1) := by decide +kernel
theorem dX6_ofKindUnder_268 : decode cX6_ofKindUnder 268 = .ok (.iload_n 3, 1) := by decide +kernel
theorem dX6_ofKindUnder_269 : decode cX6_ofKindUnder 269 = .ok (.iload 4, 2) := by decide +kernel
theorem dX6_ofKindUnder_271 : decode cX6_ofKindUnder 271 = .ok (.invokevirtual 33, 3) := by decide +kernel
theorem dX6_ofKindUnder_274 : decode cX6_ofKindUnder 274 = .ok (.aload_n 0, 1) := by decide +kernel
theorem dX6_ofKindUnder_275 : decode cX6_ofKindUnder 275 = .ok (.iload_n 2, 1) := by decide +kernel
theorem dX6_ofKindUnder_276 : decode cX6_ofKindUnder 276 = .ok (.iconst 3, 1) := by decide +kernel
theorem dX6_ofKindUnder_277 : decode cX6_ofKindUnder 277 = .ok (.iload_n 3, 1) := by decide +kernel
theorem dX6_ofKindUnder_278 : decode cX6_ofKindUnder 278 = .ok (.iload 4, 2) := by decide +kernel
theorem dX6_ofKindUnder_280 : decode cX6_ofKindUnder 280 = .ok (.invokevirtual 33, 3) := by decide +kernel
theorem dX6_ofKindUnder_283 : decode cX6_ofKindUnder 283 = .ok (.isub, 1) := by decide +kernel
theorem dX6_ofKindUnder_284 : decode cX6_ofKindUnder 284 = .ok (.ireturn, 1) := by decide +kernel
theorem dX6_ofKindUnder_285 : decode cX6_ofKindUnder 285 = .ok (.iconst 0, 1) := by decide +kernel
theorem dX6_ofKindUnder_286 : decode cX6_ofKindUnder 286 = .ok (.ireturn, 1) := by decide +kernel
theorem dX7_init_0 : decode cX7_init 0 = .ok (.aload_n 0, 1) := by decide +kernel
theorem dX7_init_1 : decode cX7_init 1 = .ok (.invokespecial 3, 3) := by decide +kernel
theorem dX7_init_4 : decode cX7_init 4 = .ok (.aload_n 0, 1) := by decide +kernel
theorem dX7_init_5 : decode cX7_init 5 = .ok (.new 9, 3) := by decide +kernel
theorem dX7_init_8 : decode cX7_init 8 = .ok (.dup, 1) := by decide +kernel
theorem dX7_init_9 : decode cX7_init 9 = .ok (.invokespecial 11, 3) := by decide +kernel
theorem dX7_init_12 : decode cX7_init 12 = .ok (.putfield 12, 3) := by decide +kernel
theorem dX7_init_15 : decode cX7_init 15 = .ok (.aload_n 0, 1) := by decide +kernel
theorem dX7_init_16 : decode cX7_init 16 = .ok (.new 16, 3) := by decide +kernel
theorem dX7_init_19 : decode cX7_init 19 = .ok (.dup, 1) := by decide +kernel
theorem dX7_init_20 : decode cX7_init 20 = .ok (.invokespecial 18, 3) := by decide +kernel
theorem dX7_init_23 : decode cX7_init 23 = .ok (.putfield 19, 3) := by decide +kernel
theorem dX7_init_26 : decode cX7_init 26 = .ok (.aload_n 0, 1) := by decide +kernel
theorem dX7_init_27 : decode cX7_init 27 = .ok (.new 23, 3) := by decide +kernel
theorem dX7_init_30 : decode cX7_init 30 = .ok (.dup, 1) := by decide +kernel
theorem dX7_init_31 : decode cX7_init 31 = .ok (.invokespecial 25, 3) := by decide +kernel
theorem dX7_init_34 : decode cX7_init 34 = .ok (.putfield 26, 3) := by decide +kernel
theorem dX7_init_37 : decode cX7_init 37 = .ok (.aload_n 0, 1) := by decide +kernel
theorem dX7_init_38 : decode cX7_init 38 = .ok (.iconst 4, 1) := by decide +kernel
theorem dX7_init_39 : decode cX7_init 39 = .ok (.anewarray 30, 3) := by decide +kernel
theorem dX7_init_42 : decode cX7_init 42 = .ok (.putfield 32, 3) := by decide +kernel
theorem dX7_init_45 : decode cX7_init 45 = .ok (.aload_n 0, 1) := by decide +kernel
theorem dX7_init_46 : decode cX7_init 46 = .ok (.bipush 7, 2) := by decide +kernel
theorem dX7_init_48 : decode cX7_init 48 = .ok (.newarray .int, 2) := by decide +kernel
theorem dX7_init_50 : decode cX7_init 50 = .ok (.putfield 36, 3) := by decide +kernel
theorem dX7_init_53 : decode cX7_init 53 = .ok (.aload_n 0, 1) := by decide +kernel
theorem dX7_init_54 : decode cX7_init 54 = .ok (.bipush 24, 2) := by decide +kernel
theorem dX7_init_56 : decode cX7_init 56 = .ok (.newarray .int, 2) := by decide +kernel
theorem dX7_init_58 : decode cX7_init 58 = .ok (.putfield 40, 3) := by decide +kernel
theorem dX7_init_61 : decode cX7_init 61 = .ok (.aload_n 0, 1) := by decide +kernel
theorem dX7_init_62 : decode cX7_init 62 = .ok (.bipush 8, 2) := by decide +kernel
theorem dX7_init_64 : decode cX7_init 64 = .ok (.newarray .int, 2) := by decide +kernel
theorem dX7_init_66 : decode cX7_init 66 = .ok (.putfield 43, 3) := by decide +kernel
theorem dX7_init_69 : decode cX7_init 69 = .ok (.aload_n 0, 1) := by decide +kernel
theorem dX7_init_70 : decode cX7_init 70 = .ok (.bipush 30, 2) := by decide +kernel
theorem dX7_init_72 : decode cX7_init 72 = .ok (.newarray .int, 2) := by decide +kernel
theorem dX7_init_74 : decode cX7_init 74 = .ok (.putfield 46, 3) := by decide +kernel
theorem dX7_init_77 : decode cX7_init 77 = .ok (.aload_n 0, 1) := by decide +kernel
theorem dX7_init_78 : decode cX7_init 78 = .ok (.aconst_null, 1) := by decide +kernel
theorem dX7_init_79 : decode cX7_init 79 = .ok (.putfield 49, 3) := by decide +kernel
theorem dX7_init_82 : decode cX7_init 82 = .ok (.aload_n 0, 1) := by decide +kernel
theorem dX7_init_83 : decode cX7_init 83 = .ok (.iconst 0, 1) := by decide +kernel
theorem dX7_init_84 : decode cX7_init 84 = .ok (.putfield 52, 3) := by decide +kernel
theorem dX7_init_87 : decode cX7_init 87 = .ok (.iconst 0, 1) := by decide +kernel
theorem dX7_init_88 : decode cX7_init 88 = .ok (.istore_n 1, 1) := by decide +kernel
theorem dX7_init_89 : decode cX7_init 89 = .ok (.iload_n 1, 1) := by decide +kernel
theorem dX7_init_90 : decode cX7_init 90 = .ok (.aload_n 0, 1) := by decide +kernel
theorem dX7_init_91 : decode cX7_init 91 = .ok (.getfield 32, 3) := by decide +kernel
theorem dX7_init_94 : decode cX7_init 94 = .ok (.arraylength, 1) := by decide +kernel
theorem dX7_init_95 : decode cX7_init 95 = .ok (.if_icmp .ge 22, 3) := by decide +kernel
theorem dX7_init_98 : decode cX7_init 98 = .ok (.aload_n 0, 1) := by decide +kernel
theorem dX7_init_99 : decode cX7_init 99 = .ok (.getfield 32, 3) := by decide +kernel
theorem dX7_init_102 : decode cX7_init 102 = .ok (.iload_n 1, 1) := by decide +kernel
theorem dX7_init_103 : decode cX7_init 103 = .ok (.new 30, 3) := by decide +kernel
theorem dX7_init_106 : decode cX7_init 106 = .ok (.dup, 1) := by decide +kernel
theorem dX7_init_107 : decode cX7_init 107 = .ok (.invokespecial 56, 3) := by decide +kernel
theorem dX7_init_110 : decode cX7_init 110 = .ok (.aastore, 1) := by decide +kernel
theorem dX7_init_111 : decode cX7_init 111 = .ok (.iinc 1 1, 3) := by decide +kernel
theorem dX7_init_114 : decode cX7_init 114 = .ok (.goto (-25), 3) := by decide +kernel
theorem dX7_init_117 : decode cX7_init 117 = .ok (.return_, 1) := by decide +kernel
theorem dX7_machine_0 : decode cX7_machine 0 = .ok (.iload_n 1, 1) := by decide +kernel
theorem dX7_machine_1 : decode cX7_machine 1 = .ok (.iconst 0, 1) := by decide +kernel
theorem dX7_machine_2 : decode cX7_machine 2 = .ok (.iconst 3, 1) := by decide +kernel
theorem dX7_machine_3 : decode cX7_machine 3 = .ok (.invokestatic 57, 3) := by decide +kernel
theorem dX7_machine_6 : decode cX7_machine 6 = .ok (.ifCond .ne 29, 3) := by decide +kernel
theorem dX7_machine_9 : decode cX7_machine 9 = .ok (.iload_n 2, 1) := by decide +kernel
theorem dX7_machine_10 : decode cX7_machine 10 = .ok (.iconst 0, 1) := by decide +kernel
theorem dX7_machine_11 : decode cX7_machine 11 = .ok (.iconst 2, 1) := by decide +kernel
theorem dX7_machine_12 : decode cX7_machine 12 = .ok (.invokestatic 57, 3) := by decide +kernel
theorem dX7_machine_15 : decode cX7_machine 15 = .ok (.ifCond .ne 20, 3) := by decide +kernel
theorem dX7_machine_18 : decode cX7_machine 18 = .ok (.iload_n 3, 1) := by decide +kernel
theorem dX7_machine_19 : decode cX7_machine 19 = .ok (.getstatic 61, 3) := by decide +kernel
theorem dX7_machine_22 : decode cX7_machine 22 = .ok (.iload_n 2, 1) := by decide +kernel
theorem dX7_machine_23 : decode cX7_machine 23 = .ok (.iaload, 1) := by decide +kernel
theorem dX7_machine_24 : decode cX7_machine 24 = .ok (.getstatic 64, 3) := by decide +kernel
theorem dX7_machine_27 : decode cX7_machine 27 = .ok (.iload_n 2, 1) := by decide +kernel
theorem dX7_machine_28 : decode cX7_machine 28 = .ok (.iaload, 1) := by decide +kernel
theorem dX7_machine_29 : decode cX7_machine 29 = .ok (.invokestatic 57, 3) := by decide +kernel
theorem dX7_machine_32 : decode cX7_machine 32 = .ok (.ifCond .eq 10, 3) := by decide +kernel
theorem dX7_machine_35 : decode cX7_machine 35 = .ok (.aload_n 0, 1) := by decide +kernel
theorem dX7_machine_36 : decode cX7_machine 36 = .ok (.ldc 67, 2) := by decide +kernel
theorem dX7_machine_38 : decode cX7_machine 38 = .ok (.invokevirtual 68, 3) := by decide +kernel
theorem dX7_machine_41 : decode cX7_machine 41 = .ok (.ireturn, 1) := by decide +kernel
theorem dX7_machine_42 : decode cX7_machine 42 = .ok (.aload_n 0, 1) := by decide +kernel
theorem dX7_machine_43 : decode cX7_machine 43 = .ok (.getfield 12, 3) := by decide +kernel
theorem dX7_machine_46 : decode cX7_machine 46 = .ok (.getfield 72, 3) := by decide +kernel
theorem dX7_machine_49 : decode cX7_machine 49 = .ok (.iload_n 1, 1) := by decide +kernel
theorem dX7_machine_50 : decode cX7_machine 50 = .ok (.iload_n 2, 1) := by decide +kernel
theorem dX7_machine_51 : decode cX7_machine 51 = .ok (.invokevirtual 76, 3) := by decide +kernel
theorem dX7_machine_54 : decode cX7_machine 54 = .ok (.istore 4, 2) := by decide +kernel
theorem dX7_machine_56 : decode cX7_machine 56 = .ok (.aload_n 0, 1) := by decide +kernel
theorem dX7_machine_57 : decode cX7_machine 57 = .ok (.getfield 12, 3) := by decide +kernel
theorem dX7_machine_60 : decode cX7_machine 60 = .ok (.getfield 72, 3) := by decide +kernel
theorem dX7_machine_63 : decode cX7_machine 63 = .ok (.iload_n 1, 1) := by decide +kernel
theorem dX7_machine_64 : decode cX7_machine 64 = .ok (.iload_n 2, 1) := by decide +kernel
theorem dX7_machine_65 : decode cX7_machine 65 = .ok (.iload_n 3, 1) := by decide +kernel
theorem dX7_machine_66 : decode cX7_machine 66 = .ok (.invokevirtual 82, 3) := by decide +kernel
theorem dX7_machine_69 : decode cX7_machine 69 = .ok (.iload 4, 2) := by decide +kernel
theorem dX7_machine_71 : decode cX7_machine 71 = .ok (.ireturn, 1) := by decide +kernel
theorem dX7_draws_0 : decode cX7_draws 0 = .ok (.aload_n 0, 1) := by decide +kernel
theorem dX7_draws_1 : decode cX7_draws 1 = .ok (.getfield 12, 3) := by decide +kernel
theorem dX7_draws_4 : decode cX7_draws 4 = .ok (.getfield 86, 3) := by decide +kernel
theorem dX7_draws_7 : decode cX7_draws 7 = .ok (.istore_n 2, 1) := by decide +kernel
theorem dX7_draws_8 : decode cX7_draws 8 = .ok (.aload_n 0, 1) := by decide +kernel
theorem dX7_draws_9 : decode cX7_draws 9 = .ok (.getfield 12, 3) := by decide +kernel
theorem dX7_draws_12 : decode cX7_draws 12 = .ok (.iload_n 1, 1) := by decide +kernel
theorem dX7_draws_13 : decode cX7_draws 13 = .ok (.putfield 86, 3) := by decide +kernel
theorem dX7_draws_16 : decode cX7_draws 16 = .ok (.iload_n 2, 1) := by decide +kernel
theorem dX7_draws_17 : decode cX7_draws 17 = .ok (.ireturn, 1) := by decide +kernel
theorem dX7_paper_0 : decode cX7_paper 0 = .ok (.iload_n 1, 1) := by decide +kernel
theorem dX7_paper_1 : decode cX7_paper 1 = .ok (.iconst 0, 1) := by decide +kernel
theorem dX7_paper_2 : decode cX7_paper 2 = .ok (.sipush 999, 3) := by decide +kernel
theorem dX7_paper_5 : decode cX7_paper 5 = .ok (.invokestatic 57, 3) := by decide +kernel
theorem dX7_paper_8 : decode cX7_paper 8 = .ok (.ifCond .ne 24, 3) := by decide +kernel
theorem dX7_paper_11 : decode cX7_paper 11 = .ok (.iload_n 2, 1) := by decide +kernel
theorem dX7_paper_12 : decode cX7_paper 12 = .ok (.iconst 1, 1) := by decide +kernel
theorem dX7_paper_13 : decode cX7_paper 13 = .ok (.sipush 255, 3) := by decide +kernel
theorem dX7_paper_16 : decode cX7_paper 16 = .ok (.invokestatic 57, 3) := by decide +kernel
theorem dX7_paper_19 : decode cX7_paper 19 = .ok (.ifCond .ne 13, 3) := by decide +kernel
theorem dX7_paper_22 : decode cX7_paper 22 = .ok (.iload_n 3, 1) := by decide +kernel
theorem dX7_paper_23 : decode cX7_paper 23 = .ok (.iconst 1, 1) := by decide +kernel
theorem dX7_paper_24 : decode cX7_paper 24 = .ok (.bipush 99, 2) := by decide +kernel
theorem dX7_paper_26 : decode cX7_paper 26 = .ok (.invokestatic 57, 3) := by decide +kernel
theorem dX7_paper_29 : decode cX7_paper 29 = .ok (.ifCond .eq 10, 3) := by decide +kernel
theorem dX7_paper_32 : decode cX7_paper 32 = .ok (.aload_n 0, 1) := by decide +kernel
theorem dX7_paper_33 : decode cX7_paper 33 = .ok (.ldc 67, 2) := by decide +kernel
theorem dX7_paper_35 : decode cX7_paper 35 = .ok (.invokevirtual 68, 3) := by decide +kernel
theorem dX7_paper_38 : decode cX7_paper 38 = .ok (.ireturn, 1) := by decide +kernel
theorem dX7_paper_39 : decode cX7_paper 39 = .ok (.aload_n 0, 1) := by decide +kernel
theorem dX7_paper_40 : decode cX7_paper 40 = .ok (.getfield 12, 3) := by decide +kernel
theorem dX7_paper_43 : decode cX7_paper 43 = .ok (.getfield 89, 3) := by decide +kernel
theorem dX7_paper_46 : decode cX7_paper 46 = .ok (.invokevirtual 92, 3) := by decide +kernel
theorem dX7_paper_49 : decode cX7_paper 49 = .ok (.ifCond .eq 10, 3) := by decide +kernel
theorem dX7_paper_52 : decode cX7_paper 52 = .ok (.aload_n 0, 1) := by decide +kernel
theorem dX7_paper_53 : decode cX7_paper 53 = .ok (.ldc 96, 2) := by decide +kernel
theorem dX7_paper_55 : decode cX7_paper 55 = .ok (.invokevirtual 68, 3) := by decide +kernel
theorem dX7_paper_58 : decode cX7_paper 58 = .ok (.ireturn, 1) := by decide +kernel
theorem dX7_paper_59 : decode cX7_paper 59 = .ok (.aload_n 0, 1) := by decide +kernel
theorem dX7_paper_60 : decode cX7_paper 60 = .ok (.getfield 12, 3) := by decide +kernel
theorem dX7_paper_63 : decode cX7_paper 63 = .ok (.getfield 89, 3) := by decide +kernel
theorem dX7_paper_66 : decode cX7_paper 66 = .ok (.invokevirtual 97, 3) := by decide +kernel
theorem dX7_paper_69 : decode cX7_paper 69 = .ok (.istore 4, 2) := by decide +kernel
theorem dX7_paper_71 : decode cX7_paper 71 = .ok (.aload_n 0, 1) := by decide +kernel
theorem dX7_paper_72 : decode cX7_paper 72 = .ok (.getfield 12, 3) := by decide +kernel
theorem dX7_paper_75 : decode cX7_paper 75 = .ok (.getfield 89, 3) := by decide +kernel
theorem dX7_paper_78 : decode cX7_paper 78 = .ok (.iload 4, 2) := by decide +kernel
theorem dX7_paper_80 : decode cX7_paper 80 = .ok (.iconst 0, 1) := by decide +kernel
theorem dX7_paper_81 : decode cX7_paper 81 = .ok (.iload_n 1, 1) := by decide +kernel
theorem dX7_paper_82 : decode cX7_paper 82 = .ok (.invokevirtual 82, 3) := by decide +kernel
theorem dX7_paper_85 : decode cX7_paper 85 = .ok (.aload_n 0, 1) := by decide +kernel
theorem dX7_paper_86 : decode cX7_paper 86 = .ok (.getfield 12, 3) := by decide +kernel
theorem dX7_paper_89 : decode cX7_paper 89 = .ok (.getfield 89, 3) := by decide +kernel
theorem dX7_paper_92 : decode cX7_paper 92 = .ok (.iload 4, 2) := by decide +kernel
theorem dX7_paper_94 : decode cX7_paper 94 = .ok (.iconst 1, 1) := by decide +kernel
theorem dX7_paper_95 : decode cX7_paper 95 = .ok (.iload_n 2, 1) := by decide +kernel
theorem dX7_paper_96 : decode cX7_paper 96 = .ok (.invokevirtual 82, 3) := by decide +kernel
theorem dX7_paper_99 : decode cX7_paper 99 = .ok (.aload_n 0, 1) := by decide +kernel
theorem dX7_paper_100 : decode cX7_paper 100 = .ok (.getfield 12, 3) := by decide +kernel
theorem dX7_paper_103 : decode cX7_paper 103 = .ok (.getfield 89, 3) := by decide +kernel
theorem dX7_paper_106 : decode cX7_paper 106 = .ok (.iload 4, 2) := by decide +kernel
theorem dX7_paper_108 : decode cX7_paper 108 = .ok (.iconst 2, 1) := by decide +kernel
theorem dX7_paper_109 : decode cX7_paper 109 = .ok (.iload_n 3, 1) := by decide +kernel
theorem dX7_paper_110 : decode cX7_paper 110 = .ok (.invokevirtual 82, 3) := by decide +kernel
theorem dX7_paper_113 : decode cX7_paper 113 = .ok (.iload 4, 2) := by decide +kernel
theorem dX7_paper_115 : decode cX7_paper 115 = .ok (.ireturn, 1) := by decide +kernel
theorem dX7_paperIs_0 : decode cX7_paperIs 0 = .ok (.aload_n 0, 1) := by decide +kernel
theorem dX7_paperIs_1 : decode cX7_paperIs 1 = .ok (.getfield 12, 3) := by decide +kernel
theorem dX7_paperIs_4 : decode cX7_paperIs 4 = .ok (.getfield 89, 3) := by decide +kernel
theorem dX7_paperIs_7 : decode cX7_paperIs 7 = .ok (.iload_n 1, 1) := by decide +kernel
theorem dX7_paperIs_8 : decode cX7_paperIs 8 = .ok (.invokevirtual 101, 3) := by decide +kernel
theorem dX7_paperIs_11 : decode cX7_paperIs 11 = .ok (.ifCond .eq 12, 3) := by decide +kernel
theorem dX7_paperIs_14 : decode cX7_paperIs 14 = .ok (.iload_n 2, 1) := by decide +kernel
theorem dX7_paperIs_15 : decode cX7_paperIs 15 = .ok (.iconst 0, 1) := by decide +kernel
theorem dX7_paperIs_16 : decode cX7_paperIs 16 = .ok (.iconst 5, 1) := by decide +kernel
theorem dX7_paperIs_17 : decode cX7_paperIs 17 = .ok (.invokestatic 57, 3) := by decide +kernel
theorem dX7_paperIs_20 : decode cX7_paperIs 20 = .ok (.ifCond .eq 10, 3) := by decide +kernel
theorem dX7_paperIs_23 : decode cX7_paperIs 23 = .ok (.aload_n 0, 1) := by decide +kernel
theorem dX7_paperIs_24 : decode cX7_paperIs 24 = .ok (.ldc 67, 2) := by decide +kernel
theorem dX7_paperIs_26 : decode cX7_paperIs 26 = .ok (.invokevirtual 68, 3) := by decide +kernel
theorem dX7_paperIs_29 : decode cX7_paperIs 29 = .ok (.ireturn, 1) := by decide +kernel
theorem dX7_paperIs_30 : decode cX7_paperIs 30 = .ok (.iload_n 2, 1) := by decide +kernel
theorem dX7_paperIs_31 : decode cX7_paperIs 31 = .ok (.iconst 5, 1) := by decide +kernel
theorem dX7_paperIs_32 : decode cX7_paperIs 32 = .ok (.if_icmp .ne 14, 3) := by decide +kernel
theorem dX7_paperIs_35 : decode cX7_paperIs 35 = .ok (.aload_n 0, 1) := by decide +kernel
theorem dX7_paperIs_36 : decode cX7_paperIs 36 = .ok (.getfield 12, 3) := by decide +kernel
theorem dX7_paperIs_39 : decode cX7_paperIs 39 = .ok (.iload_n 1, 1) := by decide +kernel
theorem dX7_paperIs_40 : decode cX7_paperIs 40 = .ok (.invokevirtual 105, 3) := by decide +kernel
theorem dX7_paperIs_43 : decode cX7_paperIs 43 = .ok (.goto 15, 3) := by decide +kernel
theorem dX7_paperIs_46 : decode cX7_paperIs 46 = .ok (.aload_n 0, 1) := by decide +kernel
theorem dX7_paperIs_47 : decode cX7_paperIs 47 = .ok (.getfield 12, 3) := by decide +kernel
theorem dX7_paperIs_50 : decode cX7_paperIs 50 = .ok (.getfield 89, 3) := by decide +kernel
theorem dX7_paperIs_53 : decode cX7_paperIs 53 = .ok (.iload_n 1, 1) := by decide +kernel
theorem dX7_paperIs_54 : decode cX7_paperIs 54 = .ok (.iload_n 2, 1) := by decide +kernel
theorem dX7_paperIs_55 : decode cX7_paperIs 55 = .ok (.invokevirtual 76, 3) := by decide +kernel
theorem dX7_paperIs_58 : decode cX7_paperIs 58 = .ok (.ireturn, 1) := by decide +kernel
theorem dX7_curve_0 : decode cX7_curve 0 = .ok (.iload_n 1, 1) := by decide +kernel
theorem dX7_curve_1 : decode cX7_curve 1 = .ok (.iconst 0, 1) := by decide +kernel
theorem dX7_curve_2 : decode cX7_curve 2 = .ok (.bipush 7, 2) := by decide +kernel
theorem dX7_curve_4 : decode cX7_curve 4 = .ok (.invokestatic 57, 3) := by decide +kernel
theorem dX7_curve_7 : decode cX7_curve 7 = .ok (.ifCond .ne 28, 3) := by decide +kernel
theorem dX7_curve_10 : decode cX7_curve 10 = .ok (.aload_n 0, 1) := by decide +kernel
theorem dX7_curve_11 : decode cX7_curve 11 = .ok (.iload_n 2, 1) := by decide +kernel
theorem dX7_curve_12 : decode cX7_curve 12 = .ok (.invokevirtual 108, 3) := by decide +kernel
theorem dX7_curve_15 : decode cX7_curve 15 = .ok (.ifCond .eq 20, 3) := by decide +kernel
theorem dX7_curve_18 : decode cX7_curve 18 = .ok (.iload_n 3, 1) := by decide +kernel
theorem dX7_curve_19 : decode cX7_curve 19 = .ok (.iconst 0, 1) := by decide +kernel
theorem dX7_curve_20 : decode cX7_curve 20 = .ok (.iconst 3, 1) := by decide +kernel
theorem dX7_curve_21 : decode cX7_curve 21 = .ok (.invokestatic 57, 3) := by decide +kernel
theorem dX7_curve_24 : decode cX7_curve 24 = .ok (.ifCond .ne 11, 3) := by decide +kernel
theorem dX7_curve_27 : decode cX7_curve 27 = .ok (.iload 5, 2) := by decide +kernel
theorem dX7_curve_29 : decode cX7_curve 29 = .ok (.invokestatic 111, 3) := by decide +kernel
theorem dX7_curve_32 : decode cX7_curve 32 = .ok (.ifCond .ne 10, 3) := by decide +kernel
theorem dX7_curve_35 : decode cX7_curve 35 = .ok (.aload_n 0, 1) := by decide +kernel
theorem dX7_curve_36 : decode cX7_curve 36 = .ok (.ldc 67, 2) := by decide +kernel
theorem dX7_curve_38 : decode cX7_curve 38 = .ok (.invokevirtual 68, 3) := by decide +kernel
theorem dX7_curve_41 : decode cX7_curve 41 = .ok (.ireturn, 1) := by decide +kernel
theorem dX7_curve_42 : decode cX7_curve 42 = .ok (.aload_n 0, 1) := by decide +kernel
theorem dX7_curve_43 : decode cX7_curve 43 = .ok (.getfield 32, 3) := by decide +kernel
theorem dX7_curve_46 : decode cX7_curve 46 = .ok (.iload_n 3, 1) := by decide +kernel
theorem dX7_curve_47 : decode cX7_curve 47 = .ok (.aaload, 1) := by decide +kernel
theorem dX7_curve_48 : decode cX7_curve 48 = .ok (.astore 6, 2) := by decide +kernel
theorem dX7_curve_50 : decode cX7_curve 50 = .ok (.aload 6, 2) := by decide +kernel
theorem dX7_curve_52 : decode cX7_curve 52 = .ok (.invokevirtual 114, 3) := by decide +kernel
theorem dX7_curve_55 : decode cX7_curve 55 = .ok (.ifCond .eq 10, 3) := by decide +kernel
theorem dX7_curve_58 : decode cX7_curve 58 = .ok (.aload_n 0, 1) := by decide +kernel
theorem dX7_curve_59 : decode cX7_curve 59 = .ok (.ldc 117, 2) := by decide +kernel
theorem dX7_curve_61 : decode cX7_curve 61 = .ok (.invokevirtual 68, 3) := by decide +kernel
theorem dX7_curve_64 : decode cX7_curve 64 = .ok (.ireturn, 1) := by decide +kernel
theorem dX7_curve_65 : decode cX7_curve 65 = .ok (.aload 6, 2) := by decide +kernel
theorem dX7_curve_67 : decode cX7_curve 67 = .ok (.iload 4, 2) := by decide +kernel
theorem dX7_curve_69 : decode cX7_curve 69 = .ok (.iload 5, 2) := by decide +kernel
theorem dX7_curve_71 : decode cX7_curve 71 = .ok (.invokevirtual 118, 3) := by decide +kernel
theorem dX7_curve_74 : decode cX7_curve 74 = .ok (.ifCond .eq 15, 3) := by decide +kernel
theorem dX7_curve_77 : decode cX7_curve 77 = .ok (.aload 6, 2) := by decide +kernel
theorem dX7_curve_79 : decode cX7_curve 79 = .ok (.iload 4, 2) := by decide +kernel
theorem dX7_curve_81 : decode cX7_curve 81 = .ok (.iload 5, 2) := by decide +kernel
theorem dX7_curve_83 : decode cX7_curve 83 = .ok (.invokestatic 122, 3) := by decide +kernel
theorem dX7_curve_86 : decode cX7_curve 86 = .ok (.ifCond .ne 10, 3) := by decide +kernel
theorem dX7_curve_89 : decode cX7_curve 89 = .ok (.aload_n 0, 1) := by decide +kernel
theorem dX7_curve_90 : decode cX7_curve 90 = .ok (.ldc 67, 2) := by decide +kernel
theorem dX7_curve_92 : decode cX7_curve 92 = .ok (.invokevirtual 68, 3) := by decide +kernel
theorem dX7_curve_95 : decode cX7_curve 95 = .ok (.ireturn, 1) := by decide +kernel
theorem dX7_curve_96 : decode cX7_curve 96 = .ok (.aload_n 0, 1) := by decide +kernel
theorem dX7_curve_97 : decode cX7_curve 97 = .ok (.getfield 12, 3) := by decide +kernel
theorem dX7_curve_100 : decode cX7_curve 100 = .ok (.getfield 126, 3) := by decide +kernel
theorem dX7_curve_103 : decode cX7_curve 103 = .ok (.invokevirtual 92, 3) := by decide +kernel
theorem dX7_curve_106 : decode cX7_curve 106 = .ok (.ifCond .eq 10, 3) := by decide +kernel
theorem dX7_curve_109 : decode cX7_curve 109 = .ok (.aload_n 0, 1) := by decide +kernel
theorem dX7_curve_110 : decode cX7_curve 110 = .ok (.ldc 96, 2) := by decide +kernel
theorem dX7_curve_112 : decode cX7_curve 112 = .ok (.invokevirtual 68, 3) := by decide +kernel
theorem dX7_curve_115 : decode cX7_curve 115 = .ok (.ireturn, 1) := by decide +kernel
theorem dX7_curve_116 : decode cX7_curve 116 = .ok (.aload_n 0, 1) := by decide +kernel
theorem dX7_curve_117 : decode cX7_curve 117 = .ok (.getfield 12, 3) := by decide +kernel
theorem dX7_curve_120 : decode cX7_curve 120 = .ok (.iload_n 1, 1) := by decide +kernel
theorem dX7_curve_121 : decode cX7_curve 121 = .ok (.iload_n 2, 1) := by decide +kernel
theorem dX7_curve_122 : decode cX7_curve 122 = .ok (.bipush 10, 2) := by decide +kernel
theorem dX7_curve_124 : decode cX7_curve 124 = .ok (.idiv, 1) := by decide +kernel
theorem dX7_curve_125 : decode cX7_curve 125 = .ok (.iload_n 2, 1) := by decide +kernel
theorem dX7_curve_126 : decode cX7_curve 126 = .ok (.bipush 10, 2) := by decide +kernel
theorem dX7_curve_128 : decode cX7_curve 128 = .ok (.irem, 1) := by decide +kernel
theorem dX7_curve_129 : decode cX7_curve 129 = .ok (.iload 5, 2) := by decide +kernel
theorem dX7_curve_131 : decode cX7_curve 131 = .ok (.iconst (-1), 1) := by decide +kernel
theorem dX7_curve_132 : decode cX7_curve 132 = .ok (.invokevirtual 129, 3) := by decide +kernel
theorem dX7_curve_135 : decode cX7_curve 135 = .ok (.istore 7, 2) := by decide +kernel
theorem dX7_curve_137 : decode cX7_curve 137 = .ok (.iconst 0, 1) := by decide +kernel
theorem dX7_curve_138 : decode cX7_curve 138 = .ok (.istore 8, 2) := by decide +kernel
theorem dX7_curve_140 : decode cX7_curve 140 = .ok (.iload 8, 2) := by decide +kernel
theorem dX7_curve_142 : decode cX7_curve 142 = .ok (.iload 5, 2) := by decide +kernel
theorem dX7_curve_144 : decode cX7_curve 144 = .ok (.if_icmp .ge 30, 3) := by decide +kernel
theorem dX7_curve_147 : decode cX7_curve 147 = .ok (.aload_n 0, 1) := by decide +kernel
theorem dX7_curve_148 : decode cX7_curve 148 = .ok (.getfield 12, 3) := by decide +kernel
theorem dX7_curve_151 : decode cX7_curve 151 = .ok (.iload 7, 2) := by decide +kernel
theorem dX7_curve_153 : decode cX7_curve 153 = .ok (.iload 8, 2) := by decide +kernel
theorem dX7_curve_155 : decode cX7_curve 155 = .ok (.aload 6, 2) := by decide +kernel
theorem dX7_curve_157 : decode cX7_curve 157 = .ok (.iload 4, 2) := by decide +kernel
theorem dX7_curve_159 : decode cX7_curve 159 = .ok (.iload 8, 2) := by decide +kernel
theorem dX7_curve_161 : decode cX7_curve 161 = .ok (.iadd, 1) := by decide +kernel
theorem dX7_curve_162 : decode cX7_curve 162 = .ok (.invokevirtual 133, 3) := by decide +kernel
theorem dX7_curve_165 : decode cX7_curve 165 = .ok (.invokevirtual 135, 3) := by decide +kernel
theorem dX7_curve_168 : decode cX7_curve 168 = .ok (.iinc 8 1, 3) := by decide +kernel
theorem dX7_curve_171 : decode cX7_curve 171 = .ok (.goto (-31), 3) := by decide +kernel
theorem dX7_curve_174 : decode cX7_curve 174 = .ok (.iload 7, 2) := by decide +kernel
theorem dX7_curve_176 : decode cX7_curve 176 = .ok (.ireturn, 1) := by decide +kernel
theorem dX7_measure_0 : decode cX7_measure 0 = .ok (.aload_n 0, 1) := by decide +kernel
theorem dX7_measure_1 : decode cX7_measure 1 = .ok (.iload_n 1, 1) := by decide +kernel
theorem dX7_measure_2 : decode cX7_measure 2 = .ok (.invokevirtual 108, 3) := by decide +kernel
theorem dX7_measure_5 : decode cX7_measure 5 = .ok (.ifCond .eq 10, 3) := by decide +kernel
theorem dX7_measure_8 : decode cX7_measure 8 = .ok (.iload_n 2, 1) := by decide +kernel
theorem dX7_measure_9 : decode cX7_measure 9 = .ok (.invokestatic 111, 3) := by decide +kernel
theorem dX7_measure_12 : decode cX7_measure 12 = .ok (.ifCond .ne 10, 3) := by decide +kernel
theorem dX7_measure_15 : decode cX7_measure 15 = .ok (.aload_n 0, 1) := by decide +kernel
theorem dX7_measure_16 : decode cX7_measure 16 = .ok (.ldc 67, 2) := by decide +kernel
theorem dX7_measure_18 : decode cX7_measure 18 = .ok (.invokevirtual 68, 3) := by decide +kernel
theorem dX7_measure_21 : decode cX7_measure 21 = .ok (.ireturn, 1) := by decide +kernel
theorem dX7_measure_22 : decode cX7_measure 22 = .ok (.aload_n 0, 1) := by decide +kernel
theorem dX7_measure_23 : decode cX7_measure 23 = .ok (.getfield 12, 3) := by decide +kernel
theorem dX7_measure_26 : decode cX7_measure 26 = .ok (.getfield 126, 3) := by decide +kernel
theorem dX7_measure_29 : decode cX7_measure 29 = .ok (.invokevirtual 92, 3) := by decide +kernel
theorem dX7_measure_32 : decode cX7_measure 32 = .ok (.ifCond .eq 10, 3) := by decide +kernel
theorem dX7_measure_35 : decode cX7_measure 35 = .ok (.aload_n 0, 1) := by decide +kernel
theorem dX7_measure_36 : decode cX7_measure 36 = .ok (.ldc 96, 2) := by decide +kernel
theorem dX7_measure_38 : decode cX7_measure 38 = .ok (.invokevirtual 68, 3) := by decide +kernel
theorem dX7_measure_41 : decode cX7_measure 41 = .ok (.ireturn, 1) := by decide +kernel
theorem dX7_measure_42 : decode cX7_measure 42 = .ok (.iload_n 1, 1) := by decide +kernel
theorem dX7_measure_43 : decode cX7_measure 43 = .ok (.bipush 10, 2) := by decide +kernel
theorem dX7_measure_45 : decode cX7_measure 45 = .ok (.irem, 1) := by decide +kernel
theorem dX7_measure_46 : decode cX7_measure 46 = .ok (.istore_n 3, 1) := by decide +kernel
theorem dX7_measure_47 : decode cX7_measure 47 = .ok (.aload_n 0, 1) := by decide +kernel
theorem dX7_measure_48 : decode cX7_measure 48 = .ok (.getfield 12, 3) := by decide +kernel
theorem dX7_measure_51 : decode cX7_measure 51 = .ok (.iconst 1, 1) := by decide +kernel
theorem dX7_measure_52 : decode cX7_measure 52 = .ok (.iload_n 1, 1) := by decide +kernel
theorem dX7_measure_53 : decode cX7_measure 53 = .ok (.bipush 10, 2) := by decide +kernel
theorem dX7_measure_55 : decode cX7_measure 55 = .ok (.idiv, 1) := by decide +kernel
theorem dX7_measure_56 : decode cX7_measure 56 = .ok (.iload_n 3, 1) := by decide +kernel
theorem dX7_measure_57 : decode cX7_measure 57 = .ok (.iload_n 2, 1) := by decide +kernel
theorem dX7_measure_58 : decode cX7_measure 58 = .ok (.iconst (-1), 1) := by decide +kernel
theorem dX7_measure_59 : decode cX7_measure 59 = .ok (.invokevirtual 129, 3) := by decide +kernel
theorem dX7_measure_62 : decode cX7_measure 62 = .ok (.istore 4, 2) := by decide +kernel
theorem dX7_measure_64 : decode cX7_measure 64 = .ok (.aload_n 0, 1) := by decide +kernel
theorem dX7_measure_65 : decode cX7_measure 65 = .ok (.getfield 12, 3) := by decide +kernel
theorem dX7_measure_68 : decode cX7_measure 68 = .ok (.getfield 72, 3) := by decide +kernel
theorem dX7_measure_71 : decode cX7_measure 71 = .ok (.iload_n 3, 1) := by decide +kernel
theorem dX7_measure_72 : decode cX7_measure 72 = .ok (.iconst 0, 1) := by decide +kernel
theorem dX7_measure_73 : decode cX7_measure 73 = .ok (.invokevirtual 76, 3) := by decide +kernel
theorem dX7_measure_76 : decode cX7_measure 76 = .ok (.i2l, 1) := by decide +kernel
theorem dX7_measure_77 : decode cX7_measure 77 = .ok (.lstore 5, 2) := by decide +kernel
theorem dX7_measure_79 : decode cX7_measure 79 = .ok (.aload_n 0, 1) := by decide +kernel
theorem dX7_measure_80 : decode cX7_measure 80 = .ok (.getfield 12, 3) := by decide +kernel
theorem dX7_measure_83 : decode cX7_measure 83 = .ok (.getfield 72, 3) := by decide +kernel
theorem dX7_measure_86 : decode cX7_measure 86 = .ok (.iload_n 3, 1) := by decide +kernel
theorem dX7_measure_87 : decode cX7_measure 87 = .ok (.iconst 1, 1) := by decide +kernel
theorem dX7_measure_88 : decode cX7_measure 88 = .ok (.invokevirtual 76, 3) := by decide +kernel
theorem dX7_measure_91 : decode cX7_measure 91 = .ok (.istore 7, 2) := by decide +kernel
theorem dX7_measure_93 : decode cX7_measure 93 = .ok (.iconst 0, 1) := by decide +kernel
theorem dX7_measure_94 : decode cX7_measure 94 = .ok (.istore 8, 2) := by decide +kernel
theorem dX7_measure_96 : decode cX7_measure 96 = .ok (.iload 8, 2) := by decide +kernel
theorem dX7_measure_98 : decode cX7_measure 98 = .ok (.iload_n 2, 1) := by decide +kernel
theorem dX7_measure_99 : decode cX7_measure 99 = .ok (.if_icmp .ge 56, 3) := by decide +kernel
theorem dX7_measure_102 : decode cX7_measure 102 = .ok (.aload_n 0, 1) := by decide +kernel
theorem dX7_measure_103 : decode cX7_measure 103 = .ok (.getfield 12, 3) := by decide +kernel
theorem dX7_measure_106 : decode cX7_measure 106 = .ok (.iconst 2, 1) := by decide +kernel
theorem dX7_measure_107 : decode cX7_measure 107 = .ok (.iload 7, 2) := by decide +kernel
theorem dX7_measure_109 : decode cX7_measure 109 = .ok (.imul, 1) := by decide +kernel
theorem dX7_measure_110 : decode cX7_measure 110 = .ok (.iconst 1, 1) := by decide +kernel
theorem dX7_measure_111 : decode cX7_measure 111 = .ok (.iadd, 1) := by decide +kernel
theorem dX7_measure_112 : decode cX7_measure 112 = .ok (.invokevirtual 138, 3) := by decide +kernel
theorem dX7_measure_115 : decode cX7_measure 115 = .ok (.iload 7, 2) := by decide +kernel
theorem dX7_measure_117 : decode cX7_measure 117 = .ok (.isub, 1) := by decide +kernel
theorem dX7_measure_118 : decode cX7_measure 118 = .ok (.i2l, 1) := by decide +kernel
theorem dX7_measure_119 : decode cX7_measure 119 = .ok (.lstore 9, 2) := by decide +kernel
theorem dX7_measure_121 : decode cX7_measure 121 = .ok (.aload_n 0, 1) := by decide +kernel
theorem dX7_measure_122 : decode cX7_measure 122 = .ok (.getfield 12, 3) := by decide +kernel
theorem dX7_measure_125 : decode cX7_measure 125 = .ok (.iload 4, 2) := by decide +kernel
theorem dX7_measure_127 : decode cX7_measure 127 = .ok (.iload 8, 2) := by decide +kernel
theorem dX7_measure_129 : decode cX7_measure 129 = .ok (.aload_n 0, 1) := by decide +kernel
theorem dX7_measure_130 : decode cX7_measure 130 = .ok (.iload 4, 2) := by decide +kernel
theorem dX7_measure_132 : decode cX7_measure 132 = .ok (.iload 8, 2) := by decide +kernel
theorem dX7_measure_134 : decode cX7_measure 134 = .ok (.invokevirtual 141, 3) := by decide +kernel
theorem dX7_measure_137 : decode cX7_measure 137 = .ok (.lload 9, 2) := by decide +kernel
theorem dX7_measure_139 : decode cX7_measure 139 = .ok (.lload 5, 2) := by decide +kernel
theorem dX7_measure_141 : decode cX7_measure 141 = .ok (.lmul, 1) := by decide +kernel
theorem dX7_measure_142 : decode cX7_measure 142 = .ok (.ladd, 1) := by decide +kernel
theorem dX7_measure_143 : decode cX7_measure 143 = .ok (.invokestatic 145, 3) := by decide +kernel
theorem dX7_measure_146 : decode cX7_measure 146 = .ok (.invokevirtual 135, 3) := by decide +kernel
theorem dX7_measure_149 : decode cX7_measure 149 = .ok (.iinc 8 1, 3) := by decide +kernel
theorem dX7_measure_152 : decode cX7_measure 152 = .ok (.goto (-56), 3) := by decide +kernel
theorem dX7_measure_155 : decode cX7_measure 155 = .ok (.iload 4, 2) := by decide +kernel
theorem dX7_measure_157 : decode cX7_measure 157 = .ok (.ireturn, 1) := by decide +kernel
theorem dX7_make_0 : decode cX7_make 0 = .ok (.iload_n 1, 1) := by decide +kernel
theorem dX7_make_1 : decode cX7_make 1 = .ok (.bipush 100, 2) := by decide +kernel
theorem dX7_make_3 : decode cX7_make 3 = .ok (.irem, 1) := by decide +kernel
theorem dX7_make_4 : decode cX7_make 4 = .ok (.istore 6, 2) := by decide +kernel
theorem dX7_make_6 : decode cX7_make 6 = .ok (.iload_n 1, 1) := by decide +kernel
theorem dX7_make_7 : decode cX7_make 7 = .ok (.bipush 100, 2) := by decide +kernel
theorem dX7_make_9 : decode cX7_make 9 = .ok (.idiv, 1) := by decide +kernel
theorem dX7_make_10 : decode cX7_make 10 = .ok (.istore 7, 2) := by decide +kernel
theorem dX7_make_12 : decode cX7_make 12 = .ok (.iload_n 3, 1) := by decide +kernel
theorem dX7_make_13 : decode cX7_make 13 = .ok (.bipush 10, 2) := by decide +kernel
theorem dX7_make_15 : decode cX7_make 15 = .ok (.idiv, 1) := by decide +kernel
theorem dX7_make_16 : decode cX7_make 16 = .ok (.istore 8, 2) := by decide +kernel
theorem dX7_make_18 : decode cX7_make 18 = .ok (.iload_n 3, 1) := by decide +kernel
theorem dX7_make_19 : decode cX7_make 19 = .ok (.bipush 10, 2) := by decide +kernel
theorem dX7_make_21 : decode cX7_make 21 = .ok (.irem, 1) := by decide +kernel
theorem dX7_make_22 : decode cX7_make 22 = .ok (.istore 9, 2) := by decide +kernel
theorem dX7_make_24 : decode cX7_make 24 = .ok (.iload 5, 2) := by decide +kernel
theorem dX7_make_26 : decode cX7_make 26 = .ok (.bipush 100, 2) := by decide +kernel
theorem dX7_make_28 : decode cX7_make 28 = .ok (.idiv, 1) := by decide +kernel
theorem dX7_make_29 : decode cX7_make 29 = .ok (.istore 10, 2) := by decide +kernel
theorem dX7_make_31 : decode cX7_make 31 = .ok (.iload 5, 2) := by decide +kernel
theorem dX7_make_33 : decode cX7_make 33 = .ok (.bipush 100, 2) := by decide +kernel
theorem dX7_make_35 : decode cX7_make 35 = .ok (.irem, 1) := by decide +kernel
theorem dX7_make_36 : decode cX7_make 36 = .ok (.istore 11, 2) := by decide +kernel
theorem dX7_make_38 : decode cX7_make 38 = .ok (.aload_n 0, 1) := by decide +kernel
theorem dX7_make_39 : decode cX7_make 39 = .ok (.getfield 12, 3) := by decide +kernel
theorem dX7_make_42 : decode cX7_make 42 = .ok (.getfield 126, 3) := by decide +kernel
theorem dX7_make_45 : decode cX7_make 45 = .ok (.iload 6, 2) := by decide +kernel
theorem dX7_make_47 : decode cX7_make 47 = .ok (.invokevirtual 101, 3) := by decide +kernel
theorem dX7_make_50 : decode cX7_make 50 = .ok (.ifCond .eq 84, 3) := by decide +kernel
theorem dX7_make_53 : decode cX7_make 53 = .ok (.aload_n 0, 1) := by decide +kernel
theorem dX7_make_54 : decode cX7_make 54 = .ok (.getfield 12, 3) := by decide +kernel
theorem dX7_make_57 : decode cX7_make 57 = .ok (.getfield 89, 3) := by decide +kernel
theorem dX7_make_60 : decode cX7_make 60 = .ok (.iload 7, 2) := by decide +kernel
theorem dX7_make_62 : decode cX7_make 62 = .ok (.invokevirtual 101, 3) := by decide +kernel
theorem dX7_make_65 : decode cX7_make 65 = .ok (.ifCond .eq 69, 3) := by decide +kernel
theorem dX7_make_68 : decode cX7_make 68 = .ok (.iload_n 2, 1) := by decide +kernel
theorem dX7_make_69 : decode cX7_make 69 = .ok (.iconst 0, 1) := by decide +kernel
theorem dX7_make_70 : decode cX7_make 70 = .ok (.iconst 3, 1) := by decide +kernel
theorem dX7_make_71 : decode cX7_make 71 = .ok (.invokestatic 57, 3) := by decide +kernel
theorem dX7_make_74 : decode cX7_make 74 = .ok (.ifCond .ne 60, 3) := by decide +kernel
theorem dX7_make_77 : decode cX7_make 77 = .ok (.iload 8, 2) := by decide +kernel
theorem dX7_make_79 : decode cX7_make 79 = .ok (.invokestatic 149, 3) := by decide +kernel
theorem dX7_make_82 : decode cX7_make 82 = .ok (.ifCond .eq 52, 3) := by decide +kernel
theorem dX7_make_85 : decode cX7_make 85 = .ok (.iload 9, 2) := by decide +kernel
theorem dX7_make_87 : decode cX7_make 87 = .ok (.invokestatic 149, 3) := by decide +kernel
theorem dX7_make_90 : decode cX7_make 90 = .ok (.ifCond .eq 44, 3) := by decide +kernel
theorem dX7_make_93 : decode cX7_make 93 = .ok (.iload 4, 2) := by decide +kernel
theorem dX7_make_95 : decode cX7_make 95 = .ok (.sipush (-999), 3) := by decide +kernel
theorem dX7_make_98 : decode cX7_make 98 = .ok (.sipush 999, 3) := by decide +kernel
theorem dX7_make_101 : decode cX7_make 101 = .ok (.invokestatic 57, 3) := by decide +kernel
theorem dX7_make_104 : decode cX7_make 104 = .ok (.ifCond .ne 30, 3) := by decide +kernel
theorem dX7_make_107 : decode cX7_make 107 = .ok (.iload 11, 2) := by decide +kernel
theorem dX7_make_109 : decode cX7_make 109 = .ok (.invokestatic 111, 3) := by decide +kernel
theorem dX7_make_112 : decode cX7_make 112 = .ok (.ifCond .eq 22, 3) := by decide +kernel
theorem dX7_make_115 : decode cX7_make 115 = .ok (.iload 11, 2) := by decide +kernel
theorem dX7_make_117 : decode cX7_make 117 = .ok (.aload_n 0, 1) := by decide +kernel
theorem dX7_make_118 : decode cX7_make 118 = .ok (.getfield 12, 3) := by decide +kernel
theorem dX7_make_121 : decode cX7_make 121 = .ok (.iload 6, 2) := by decide +kernel
theorem dX7_make_123 : decode cX7_make 123 = .ok (.iload 10, 2) := by decide +kernel
theorem dX7_make_125 : decode cX7_make 125 = .ok (.iload_n 2, 1) := by decide +kernel
theorem dX7_make_126 : decode cX7_make 126 = .ok (.iconst 1, 1) := by decide +kernel
theorem dX7_make_127 : decode cX7_make 127 = .ok (.iand, 1) := by decide +kernel
theorem dX7_make_128 : decode cX7_make 128 = .ok (.invokevirtual 152, 3) := by decide +kernel
theorem dX7_make_131 : decode cX7_make 131 = .ok (.if_icmp .le 10, 3) := by decide +kernel
theorem dX7_make_134 : decode cX7_make 134 = .ok (.aload_n 0, 1) := by decide +kernel
theorem dX7_make_135 : decode cX7_make 135 = .ok (.ldc 67, 2) := by decide +kernel
theorem dX7_make_137 : decode cX7_make 137 = .ok (.invokevirtual 68, 3) := by decide +kernel
theorem dX7_make_140 : decode cX7_make 140 = .ok (.ireturn, 1) := by decide +kernel
theorem dX7_make_141 : decode cX7_make 141 = .ok (.aload_n 0, 1) := by decide +kernel
theorem dX7_make_142 : decode cX7_make 142 = .ok (.getfield 12, 3) := by decide +kernel
theorem dX7_make_145 : decode cX7_make 145 = .ok (.getfield 126, 3) := by decide +kernel
theorem dX7_make_148 : decode cX7_make 148 = .ok (.invokevirtual 92, 3) := by decide +kernel
theorem dX7_make_151 : decode cX7_make 151 = .ok (.ifCond .eq 10, 3) := by decide +kernel
theorem dX7_make_154 : decode cX7_make 154 = .ok (.aload_n 0, 1) := by decide +kernel
theorem dX7_make_155 : decode cX7_make 155 = .ok (.ldc 96, 2) := by decide +kernel
theorem dX7_make_157 : decode cX7_make 157 = .ok (.invokevirtual 68, 3) := by decide +kernel
theorem dX7_make_160 : decode cX7_make 160 = .ok (.ireturn, 1) := by decide +kernel
theorem dX7_make_161 : decode cX7_make 161 = .ok (.aload_n 0, 1) := by decide +kernel
theorem dX7_make_162 : decode cX7_make 162 = .ok (.getfield 12, 3) := by decide +kernel
theorem dX7_make_165 : decode cX7_make 165 = .ok (.iconst 3, 1) := by decide +kernel
theorem dX7_make_166 : decode cX7_make 166 = .ok (.iload 7, 2) := by decide +kernel
theorem dX7_make_168 : decode cX7_make 168 = .ok (.aload_n 0, 1) := by decide +kernel
theorem dX7_make_169 : decode cX7_make 169 = .ok (.getfield 12, 3) := by decide +kernel
theorem dX7_make_172 : decode cX7_make 172 = .ok (.getfield 126, 3) := by decide +kernel
theorem dX7_make_175 : decode cX7_make 175 = .ok (.iload 6, 2) := by decide +kernel
theorem dX7_make_177 : decode cX7_make 177 = .ok (.iconst 2, 1) := by decide +kernel
theorem dX7_make_178 : decode cX7_make 178 = .ok (.invokevirtual 76, 3) := by decide +kernel
theorem dX7_make_181 : decode cX7_make 181 = .ok (.iload 11, 2) := by decide +kernel
theorem dX7_make_183 : decode cX7_make 183 = .ok (.iload 6, 2) := by decide +kernel
theorem dX7_make_185 : decode cX7_make 185 = .ok (.invokevirtual 129, 3) := by decide +kernel
theorem dX7_make_188 : decode cX7_make 188 = .ok (.istore 12, 2) := by decide +kernel
theorem dX7_make_190 : decode cX7_make 190 = .ok (.iload_n 2, 1) := by decide +kernel
theorem dX7_make_191 : decode cX7_make 191 = .ok (.iconst 1, 1) := by decide +kernel
theorem dX7_make_192 : decode cX7_make 192 = .ok (.iand, 1) := by decide +kernel
theorem dX7_make_193 : decode cX7_make 193 = .ok (.iconst 1, 1) := by decide +kernel
theorem dX7_make_194 : decode cX7_make 194 = .ok (.if_icmp .ne 7, 3) := by decide +kernel
theorem dX7_make_197 : decode cX7_make 197 = .ok (.iconst (-1), 1) := by decide +kernel
theorem dX7_make_198 : decode cX7_make 198 = .ok (.goto 4, 3) := by decide +kernel
theorem dX7_make_201 : decode cX7_make 201 = .ok (.iconst 1, 1) := by decide +kernel
theorem dX7_make_202 : decode cX7_make 202 = .ok (.istore 13, 2) := by decide +kernel
theorem dX7_make_204 : decode cX7_make 204 = .ok (.iconst 0, 1) := by decide +kernel
theorem dX7_make_205 : decode cX7_make 205 = .ok (.istore 14, 2) := by decide +kernel
theorem dX7_make_207 : decode cX7_make 207 = .ok (.iload 14, 2) := by decide +kernel
theorem dX7_make_209 : decode cX7_make 209 = .ok (.iload 11, 2) := by decide +kernel
theorem dX7_make_211 : decode cX7_make 211 = .ok (.if_icmp .ge 71, 3) := by decide +kernel
theorem dX7_make_214 : decode cX7_make 214 = .ok (.aload_n 0, 1) := by decide +kernel
theorem dX7_make_215 : decode cX7_make 215 = .ok (.getfield 12, 3) := by decide +kernel
theorem dX7_make_218 : decode cX7_make 218 = .ok (.iload 6, 2) := by decide +kernel
theorem dX7_make_220 : decode cX7_make 220 = .ok (.iload 10, 2) := by decide +kernel
theorem dX7_make_222 : decode cX7_make 222 = .ok (.iload 13, 2) := by decide +kernel
theorem dX7_make_224 : decode cX7_make 224 = .ok (.iload 14, 2) := by decide +kernel
theorem dX7_make_226 : decode cX7_make 226 = .ok (.imul, 1) := by decide +kernel
theorem dX7_make_227 : decode cX7_make 227 = .ok (.iadd, 1) := by decide +kernel
theorem dX7_make_228 : decode cX7_make 228 = .ok (.invokevirtual 156, 3) := by decide +kernel
theorem dX7_make_231 : decode cX7_make 231 = .ok (.iload 8, 2) := by decide +kernel
theorem dX7_make_233 : decode cX7_make 233 = .ok (.imul, 1) := by decide +kernel
theorem dX7_make_234 : decode cX7_make 234 = .ok (.iload 9, 2) := by decide +kernel
theorem dX7_make_236 : decode cX7_make 236 = .ok (.idiv, 1) := by decide +kernel
theorem dX7_make_237 : decode cX7_make 237 = .ok (.istore 15, 2) := by decide +kernel
theorem dX7_make_239 : decode cX7_make 239 = .ok (.iload_n 2, 1) := by decide +kernel
theorem dX7_make_240 : decode cX7_make 240 = .ok (.iconst 2, 1) := by decide +kernel
theorem dX7_make_241 : decode cX7_make 241 = .ok (.iand, 1) := by decide +kernel
theorem dX7_make_242 : decode cX7_make 242 = .ok (.iconst 2, 1) := by decide +kernel
theorem dX7_make_243 : decode cX7_make 243 = .ok (.if_icmp .ne 9, 3) := by decide +kernel
theorem dX7_make_246 : decode cX7_make 246 = .ok (.iload 15, 2) := by decide +kernel
theorem dX7_make_248 : decode cX7_make 248 = .ok (.ineg, 1) := by decide +kernel
theorem dX7_make_249 : decode cX7_make 249 = .ok (.goto 5, 3) := by decide +kernel
theorem dX7_make_252 : decode cX7_make 252 = .ok (.iload 15, 2) := by decide +kernel
theorem dX7_make_254 : decode cX7_make 254 = .ok (.istore 16, 2) := by decide +kernel
theorem dX7_make_256 : decode cX7_make 256 = .ok (.aload_n 0, 1) := by decide +kernel
theorem dX7_make_257 : decode cX7_make 257 = .ok (.getfield 12, 3) := by decide +kernel
theorem dX7_make_260 : decode cX7_make 260 = .ok (.iload 12, 2) := by decide +kernel
theorem dX7_make_262 : decode cX7_make 262 = .ok (.iload 14, 2) := by decide +kernel
theorem dX7_make_264 : decode cX7_make 264 = .ok (.iload 16, 2) := by decide +kernel
theorem dX7_make_266 : decode cX7_make 266 = .ok (.iload 4, 2) := by decide +kernel
theorem dX7_make_268 : decode cX7_make 268 = .ok (.iadd, 1) := by decide +kernel
theorem dX7_make_269 : decode cX7_make 269 = .ok (.i2l, 1) := by decide +kernel
theorem dX7_make_270 : decode cX7_make 270 = .ok (.invokestatic 145, 3) := by decide +kernel
theorem dX7_make_273 : decode cX7_make 273 = .ok (.invokevirtual 135, 3) := by decide +kernel
theorem dX7_make_276 : decode cX7_make 276 = .ok (.iinc 14 1, 3) := by decide +kernel
theorem dX7_make_279 : decode cX7_make 279 = .ok (.goto (-72), 3) := by decide +kernel
theorem dX7_make_282 : decode cX7_make 282 = .ok (.iload 12, 2) := by decide +kernel
theorem dX7_make_284 : decode cX7_make 284 = .ok (.ireturn, 1) := by decide +kernel
theorem dX7_curveIs_0 : decode cX7_curveIs 0 = .ok (.aload_n 0, 1) := by decide +kernel
theorem dX7_curveIs_1 : decode cX7_curveIs 1 = .ok (.getfield 12, 3) := by decide +kernel
theorem dX7_curveIs_4 : decode cX7_curveIs 4 = .ok (.getfield 126, 3) := by decide +kernel
theorem dX7_curveIs_7 : decode cX7_curveIs 7 = .ok (.iload_n 1, 1) := by decide +kernel
theorem dX7_curveIs_8 : decode cX7_curveIs 8 = .ok (.invokevirtual 101, 3) := by decide +kernel
theorem dX7_curveIs_11 : decode cX7_curveIs 11 = .ok (.ifCond .eq 12, 3) := by decide +kernel
theorem dX7_curveIs_14 : decode cX7_curveIs 14 = .ok (.iload_n 2, 1) := by decide +kernel
theorem dX7_curveIs_15 : decode cX7_curveIs 15 = .ok (.iconst 0, 1) := by decide +kernel
theorem dX7_curveIs_16 : decode cX7_curveIs 16 = .ok (.iconst 4, 1) := by decide +kernel
theorem dX7_curveIs_17 : decode cX7_curveIs 17 = .ok (.invokestatic 57, 3) := by decide +kernel
theorem dX7_curveIs_20 : decode cX7_curveIs 20 = .ok (.ifCond .eq 10, 3) := by decide +kernel
theorem dX7_curveIs_23 : decode cX7_curveIs 23 = .ok (.aload_n 0, 1) := by decide +kernel
theorem dX7_curveIs_24 : decode cX7_curveIs 24 = .ok (.ldc 67, 2) := by decide +kernel
theorem dX7_curveIs_26 : decode cX7_curveIs 26 = .ok (.invokevirtual 68, 3) := by decide +kernel
theorem dX7_curveIs_29 : decode cX7_curveIs 29 = .ok (.ireturn, 1) := by decide +kernel
theorem dX7_curveIs_30 : decode cX7_curveIs 30 = .ok (.aload_n 0, 1) := by decide +kernel
theorem dX7_curveIs_31 : decode cX7_curveIs 31 = .ok (.getfield 12, 3) := by decide +kernel
theorem dX7_curveIs_34 : decode cX7_curveIs 34 = .ok (.getfield 126, 3) := by decide +kernel
theorem dX7_curveIs_37 : decode cX7_curveIs 37 = .ok (.iload_n 1, 1) := by decide +kernel
theorem dX7_curveIs_38 : decode cX7_curveIs 38 = .ok (.iload_n 2, 1) := by decide +kernel
theorem dX7_curveIs_39 : decode cX7_curveIs 39 = .ok (.invokevirtual 76, 3) := by decide +kernel
theorem dX7_curveIs_42 : decode cX7_curveIs 42 = .ok (.ireturn, 1) := by decide +kernel
theorem dX7_as_0 : decode cX7_as 0 = .ok (.aload_n 0, 1) := by decide +kernel
theorem dX7_as_1 : decode cX7_as 1 = .ok (.getfield 12, 3) := by decide +kernel
theorem dX7_as_4 : decode cX7_as 4 = .ok (.getfield 126, 3) := by decide +kernel
theorem dX7_as_7 : decode cX7_as 7 = .ok (.iload_n 1, 1) := by decide +kernel
theorem dX7_as_8 : decode cX7_as 8 = .ok (.invokevirtual 101, 3) := by decide +kernel
theorem dX7_as_11 : decode cX7_as 11 = .ok (.ifCond .eq 13, 3) := by decide +kernel
theorem dX7_as_14 : decode cX7_as 14 = .ok (.iload_n 2, 1) := by decide +kernel
theorem dX7_as_15 : decode cX7_as 15 = .ok (.iconst 0, 1) := by decide +kernel
theorem dX7_as_16 : decode cX7_as 16 = .ok (.bipush 7, 2) := by decide +kernel
theorem dX7_as_18 : decode cX7_as 18 = .ok (.invokestatic 57, 3) := by decide +kernel
theorem dX7_as_21 : decode cX7_as 21 = .ok (.ifCond .eq 10, 3) := by decide +kernel
theorem dX7_as_24 : decode cX7_as 24 = .ok (.aload_n 0, 1) := by decide +kernel
theorem dX7_as_25 : decode cX7_as 25 = .ok (.ldc 67, 2) := by decide +kernel
theorem dX7_as_27 : decode cX7_as 27 = .ok (.invokevirtual 68, 3) := by decide +kernel
theorem dX7_as_30 : decode cX7_as 30 = .ok (.ireturn, 1) := by decide +kernel
theorem dX7_as_31 : decode cX7_as 31 = .ok (.aload_n 0, 1) := by decide +kernel
theorem dX7_as_32 : decode cX7_as 32 = .ok (.getfield 12, 3) := by decide +kernel
theorem dX7_as_35 : decode cX7_as 35 = .ok (.getfield 126, 3) := by decide +kernel
theorem dX7_as_38 : decode cX7_as 38 = .ok (.iload_n 1, 1) := by decide +kernel
theorem dX7_as_39 : decode cX7_as 39 = .ok (.iconst 0, 1) := by decide +kernel
theorem dX7_as_40 : decode cX7_as 40 = .ok (.invokevirtual 76, 3) := by decide +kernel
theorem dX7_as_43 : decode cX7_as 43 = .ok (.iload_n 2, 1) := by decide +kernel
theorem dX7_as_44 : decode cX7_as 44 = .ok (.invokestatic 159, 3) := by decide +kernel
theorem dX7_as_47 : decode cX7_as 47 = .ok (.ifCond .ne 10, 3) := by decide +kernel
theorem dX7_as_50 : decode cX7_as 50 = .ok (.aload_n 0, 1) := by decide +kernel
theorem dX7_as_51 : decode cX7_as 51 = .ok (.ldc 162, 2) := by decide +kernel
theorem dX7_as_53 : decode cX7_as 53 = .ok (.invokevirtual 68, 3) := by decide +kernel
theorem dX7_as_56 : decode cX7_as 56 = .ok (.ireturn, 1) := by decide +kernel
theorem dX7_as_57 : decode cX7_as 57 = .ok (.aload_n 0, 1) := by decide +kernel
theorem dX7_as_58 : decode cX7_as 58 = .ok (.getfield 12, 3) := by decide +kernel
theorem dX7_as_61 : decode cX7_as 61 = .ok (.iload_n 1, 1) := by decide +kernel
theorem dX7_as_62 : decode cX7_as 62 = .ok (.invokevirtual 163, 3) := by decide +kernel
theorem dX7_as_65 : decode cX7_as 65 = .ok (.ireturn, 1) := by decide +kernel
theorem dX7_point_0 : decode cX7_point 0 = .ok (.aload_n 0, 1) := by decide +kernel
theorem dX7_point_1 : decode cX7_point 1 = .ok (.getfield 12, 3) := by decide +kernel
theorem dX7_point_4 : decode cX7_point 4 = .ok (.getfield 126, 3) := by decide +kernel
theorem dX7_point_7 : decode cX7_point 7 = .ok (.iload_n 1, 1) := by decide +kernel
theorem dX7_point_8 : decode cX7_point 8 = .ok (.invokevirtual 101, 3) := by decide +kernel
theorem dX7_point_11 : decode cX7_point 11 = .ok (.ifCond .eq 21, 3) := by decide +kernel
theorem dX7_point_14 : decode cX7_point 14 = .ok (.iload_n 2, 1) := by decide +kernel
theorem dX7_point_15 : decode cX7_point 15 = .ok (.iconst 0, 1) := by decide +kernel
theorem dX7_point_16 : decode cX7_point 16 = .ok (.aload_n 0, 1) := by decide +kernel
theorem dX7_point_17 : decode cX7_point 17 = .ok (.getfield 12, 3) := by decide +kernel
theorem dX7_point_20 : decode cX7_point 20 = .ok (.iload_n 1, 1) := by decide +kernel
theorem dX7_point_21 : decode cX7_point 21 = .ok (.invokevirtual 163, 3) := by decide +kernel
theorem dX7_point_24 : decode cX7_point 24 = .ok (.iconst 1, 1) := by decide +kernel
theorem dX7_point_25 : decode cX7_point 25 = .ok (.isub, 1) := by decide +kernel
theorem dX7_point_26 : decode cX7_point 26 = .ok (.invokestatic 57, 3) := by decide +kernel
theorem dX7_point_29 : decode cX7_point 29 = .ok (.ifCond .eq 10, 3) := by decide +kernel
theorem dX7_point_32 : decode cX7_point 32 = .ok (.aload_n 0, 1) := by decide +kernel
theorem dX7_point_33 : decode cX7_point 33 = .ok (.ldc 67, 2) := by decide +kernel
theorem dX7_point_35 : decode cX7_point 35 = .ok (.invokevirtual 68, 3) := by decide +kernel
theorem dX7_point_38 : decode cX7_point 38 = .ok (.ireturn, 1) := by decide +kernel
theorem dX7_point_39 : decode cX7_point 39 = .ok (.aload_n 0, 1) := by decide +kernel
theorem dX7_point_40 : decode cX7_point 40 = .ok (.getfield 12, 3) := by decide +kernel
theorem dX7_point_43 : decode cX7_point 43 = .ok (.iload_n 1, 1) := by decide +kernel
theorem dX7_point_44 : decode cX7_point 44 = .ok (.iload_n 2, 1) := by decide +kernel
theorem dX7_point_45 : decode cX7_point 45 = .ok (.invokevirtual 156, 3) := by decide +kernel
theorem dX7_point_48 : decode cX7_point 48 = .ok (.ireturn, 1) := by decide +kernel
theorem dX7_hair_0 : decode cX7_hair 0 = .ok (.aload_n 0, 1) := by decide +kernel
theorem dX7_hair_1 : decode cX7_hair 1 = .ok (.getfield 12, 3) := by decide +kernel
theorem dX7_hair_4 : decode cX7_hair 4 = .ok (.getfield 126, 3) := by decide +kernel
theorem dX7_hair_7 : decode cX7_hair 7 = .ok (.iload_n 1, 1) := by decide +kernel
theorem dX7_hair_8 : decode cX7_hair 8 = .ok (.invokevirtual 101, 3) := by decide +kernel
theorem dX7_hair_11 : decode cX7_hair 11 = .ok (.ifCond .eq 21, 3) := by decide +kernel
theorem dX7_hair_14 : decode cX7_hair 14 = .ok (.iload_n 2, 1) := by decide +kernel
theorem dX7_hair_15 : decode cX7_hair 15 = .ok (.iconst 1, 1) := by decide +kernel
theorem dX7_hair_16 : decode cX7_hair 16 = .ok (.aload_n 0, 1) := by decide +kernel
theorem dX7_hair_17 : decode cX7_hair 17 = .ok (.getfield 12, 3) := by decide +kernel
theorem dX7_hair_20 : decode cX7_hair 20 = .ok (.iload_n 1, 1) := by decide +kernel
theorem dX7_hair_21 : decode cX7_hair 21 = .ok (.invokevirtual 163, 3) := by decide +kernel
theorem dX7_hair_24 : decode cX7_hair 24 = .ok (.iconst 2, 1) := by decide +kernel
theorem dX7_hair_25 : decode cX7_hair 25 = .ok (.isub, 1) := by decide +kernel
theorem dX7_hair_26 : decode cX7_hair 26 = .ok (.invokestatic 57, 3) := by decide +kernel
theorem dX7_hair_29 : decode cX7_hair 29 = .ok (.ifCond .eq 10, 3) := by decide +kernel
theorem dX7_hair_32 : decode cX7_hair 32 = .ok (.aload_n 0, 1) := by decide +kernel
theorem dX7_hair_33 : decode cX7_hair 33 = .ok (.ldc 67, 2) := by decide +kernel
theorem dX7_hair_35 : decode cX7_hair 35 = .ok (.invokevirtual 68, 3) := by decide +kernel
theorem dX7_hair_38 : decode cX7_hair 38 = .ok (.ireturn, 1) := by decide +kernel
theorem dX7_hair_39 : decode cX7_hair 39 = .ok (.aload_n 0, 1) := by decide +kernel
theorem dX7_hair_40 : decode cX7_hair 40 = .ok (.getfield 12, 3) := by decide +kernel
theorem dX7_hair_43 : decode cX7_hair 43 = .ok (.iload_n 1, 1) := by decide +kernel
theorem dX7_hair_44 : decode cX7_hair 44 = .ok (.iload_n 2, 1) := by decide +kernel
theorem dX7_hair_45 : decode cX7_hair 45 = .ok (.invokevirtual 166, 3) := by decide +kernel
theorem dX7_hair_48 : decode cX7_hair 48 = .ok (.ireturn, 1) := by decide +kernel
theorem dX7_feed_0 : decode cX7_feed 0 = .ok (.iload_n 3, 1) := by decide +kernel
theorem dX7_feed_1 : decode cX7_feed 1 = .ok (.iconst 1, 1) := by decide +kernel
theorem dX7_feed_2 : decode cX7_feed 2 = .ok (.bipush 8, 2) := by decide +kernel
theorem dX7_feed_4 : decode cX7_feed 4 = .ok (.invokestatic 57, 3) := by decide +kernel
theorem dX7_feed_7 : decode cX7_feed 7 = .ok (.ifCond .eq 10, 3) := by decide +kernel
theorem dX7_feed_10 : decode cX7_feed 10 = .ok (.aload_n 0, 1) := by decide +kernel
theorem dX7_feed_11 : decode cX7_feed 11 = .ok (.ldc 67, 2) := by decide +kernel
theorem dX7_feed_13 : decode cX7_feed 13 = .ok (.invokevirtual 68, 3) := by decide +kernel
theorem dX7_feed_16 : decode cX7_feed 16 = .ok (.ireturn, 1) := by decide +kernel
theorem dX7_feed_17 : decode cX7_feed 17 = .ok (.aload_n 0, 1) := by decide +kernel
theorem dX7_feed_18 : decode cX7_feed 18 = .ok (.getfield 12, 3) := by decide +kernel
theorem dX7_feed_21 : decode cX7_feed 21 = .ok (.getfield 169, 3) := by decide +kernel
theorem dX7_feed_24 : decode cX7_feed 24 = .ok (.getfield 173, 3) := by decide +kernel
theorem dX7_feed_27 : decode cX7_feed 27 = .ok (.iload_n 3, 1) := by decide +kernel
theorem dX7_feed_28 : decode cX7_feed 28 = .ok (.iadd, 1) := by decide +kernel
theorem dX7_feed_29 : decode cX7_feed 29 = .ok (.bipush 56, 2) := by decide +kernel
theorem dX7_feed_31 : decode cX7_feed 31 = .ok (.if_icmp .le 10, 3) := by decide +kernel
theorem dX7_feed_34 : decode cX7_feed 34 = .ok (.aload_n 0, 1) := by decide +kernel
theorem dX7_feed_35 : decode cX7_feed 35 = .ok (.ldc 96, 2) := by decide +kernel
theorem dX7_feed_37 : decode cX7_feed 37 = .ok (.invokevirtual 68, 3) := by decide +kernel
theorem dX7_feed_40 : decode cX7_feed 40 = .ok (.ireturn, 1) := by decide +kernel
theorem dX7_feed_41 : decode cX7_feed 41 = .ok (.iconst 0, 1) := by decide +kernel
theorem dX7_feed_42 : decode cX7_feed 42 = .ok (.istore 4, 2) := by decide +kernel
theorem dX7_feed_44 : decode cX7_feed 44 = .ok (.iload 4, 2) := by decide +kernel
theorem dX7_feed_46 : decode cX7_feed 46 = .ok (.iload_n 3, 1) := by decide +kernel
theorem dX7_feed_47 : decode cX7_feed 47 = .ok (.if_icmp .ge 28, 3) := by decide +kernel
theorem dX7_feed_50 : decode cX7_feed 50 = .ok (.aload_n 0, 1) := by decide +kernel
theorem dX7_feed_51 : decode cX7_feed 51 = .ok (.getfield 12, 3) := by decide +kernel
theorem dX7_feed_54 : decode cX7_feed 54 = .ok (.getfield 169, 3) := by decide +kernel
theorem dX7_feed_57 : decode cX7_feed 57 = .ok (.lload_n 1, 1) := by decide +kernel
theorem dX7_feed_58 : decode cX7_feed 58 = .ok (.bipush 8, 2) := by decide +kernel
theorem dX7_feed_60 : decode cX7_feed 60 = .ok (.iload 4, 2) := by decide +kernel
theorem dX7_feed_62 : decode cX7_feed 62 = .ok (.imul, 1) := by decide +kernel
theorem dX7_feed_63 : decode cX7_feed 63 = .ok (.lshr, 1) := by decide +kernel
theorem dX7_feed_64 : decode cX7_feed 64 = .ok (.l2i, 1) := by decide +kernel
theorem dX7_feed_65 : decode cX7_feed 65 = .ok (.i2b, 1) := by decide +kernel
theorem dX7_feed_66 : decode cX7_feed 66 = .ok (.invokevirtual 177, 3) := by decide +kernel
theorem dX7_feed_69 : decode cX7_feed 69 = .ok (.iinc 4 1, 3) := by decide +kernel
theorem dX7_feed_72 : decode cX7_feed 72 = .ok (.goto (-28), 3) := by decide +kernel
theorem dX7_feed_75 : decode cX7_feed 75 = .ok (.aload_n 0, 1) := by decide +kernel
theorem dX7_feed_76 : decode cX7_feed 76 = .ok (.getfield 12, 3) := by decide +kernel
theorem dX7_feed_79 : decode cX7_feed 79 = .ok (.getfield 169, 3) := by decide +kernel
theorem dX7_feed_82 : decode cX7_feed 82 = .ok (.getfield 173, 3) := by decide +kernel
theorem dX7_feed_85 : decode cX7_feed 85 = .ok (.ireturn, 1) := by decide +kernel
theorem dX7_text_0 : decode cX7_text 0 = .ok (.iload_n 1, 1) := by decide +kernel
theorem dX7_text_1 : decode cX7_text 1 = .ok (.invokestatic 180, 3) := by decide +kernel
theorem dX7_text_4 : decode cX7_text 4 = .ok (.ifCond .ne 10, 3) := by decide +kernel
theorem dX7_text_7 : decode cX7_text 7 = .ok (.aload_n 0, 1) := by decide +kernel
theorem dX7_text_8 : decode cX7_text 8 = .ok (.ldc 67, 2) := by decide +kernel
theorem dX7_text_10 : decode cX7_text 10 = .ok (.invokevirtual 68, 3) := by decide +kernel
theorem dX7_text_13 : decode cX7_text 13 = .ok (.ireturn, 1) := by decide +kernel
theorem dX7_text_14 : decode cX7_text 14 = .ok (.aload_n 0, 1) := by decide +kernel
theorem dX7_text_15 : decode cX7_text 15 = .ok (.getfield 19, 3) := by decide +kernel
theorem dX7_text_18 : decode cX7_text 18 = .ok (.aload_n 0, 1) := by decide +kernel
theorem dX7_text_19 : decode cX7_text 19 = .ok (.getfield 12, 3) := by decide +kernel
theorem dX7_text_22 : decode cX7_text 22 = .ok (.getfield 169, 3) := by decide +kernel
theorem dX7_text_25 : decode cX7_text 25 = .ok (.iload_n 1, 1) := by decide +kernel
theorem dX7_text_26 : decode cX7_text 26 = .ok (.iconst 0, 1) := by decide +kernel
theorem dX7_text_27 : decode cX7_text 27 = .ok (.iconst 0, 1) := by decide +kernel
theorem dX7_text_28 : decode cX7_text 28 = .ok (.iconst 0, 1) := by decide +kernel
theorem dX7_text_29 : decode cX7_text 29 = .ok (.invokevirtual 183, 3) := by decide +kernel
theorem dX7_text_32 : decode cX7_text 32 = .ok (.pop, 1) := by decide +kernel
theorem dX7_text_33 : decode cX7_text 33 = .ok (.aload_n 0, 1) := by decide +kernel
theorem dX7_text_34 : decode cX7_text 34 = .ok (.getfield 19, 3) := by decide +kernel
theorem dX7_text_37 : decode cX7_text 37 = .ok (.getfield 187, 3) := by decide +kernel
theorem dX7_text_40 : decode cX7_text 40 = .ok (.ifCond .ne 22, 3) := by decide +kernel
theorem dX7_text_43 : decode cX7_text 43 = .ok (.aload_n 0, 1) := by decide +kernel
theorem dX7_text_44 : decode cX7_text 44 = .ok (.getfield 12, 3) := by decide +kernel
theorem dX7_text_47 : decode cX7_text 47 = .ok (.getfield 191, 3) := by decide +kernel
theorem dX7_text_50 : decode cX7_text 50 = .ok (.iload_n 1, 1) := by decide +kernel
theorem dX7_text_51 : decode cX7_text 51 = .ok (.aaload, 1) := by decide +kernel
theorem dX7_text_52 : decode cX7_text 52 = .ok (.aload_n 0, 1) := by decide +kernel
theorem dX7_text_53 : decode cX7_text 53 = .ok (.getfield 12, 3) := by decide +kernel
theorem dX7_text_56 : decode cX7_text 56 = .ok (.getfield 169, 3) := by decide +kernel
theorem dX7_text_59 : decode cX7_text 59 = .ok (.invokevirtual 195, 3) := by decide +kernel
theorem dX7_text_62 : decode cX7_text 62 = .ok (.aload_n 0, 1) := by decide +kernel
theorem dX7_text_63 : decode cX7_text 63 = .ok (.getfield 12, 3) := by decide +kernel
theorem dX7_text_66 : decode cX7_text 66 = .ok (.getfield 169, 3) := by decide +kernel
theorem dX7_text_69 : decode cX7_text 69 = .ok (.invokevirtual 199, 3) := by decide +kernel
theorem dX7_text_72 : decode cX7_text 72 = .ok (.aload_n 0, 1) := by decide +kernel
theorem dX7_text_73 : decode cX7_text 73 = .ok (.getfield 19, 3) := by decide +kernel
theorem dX7_text_76 : decode cX7_text 76 = .ok (.getfield 187, 3) := by decide +kernel
theorem dX7_text_79 : decode cX7_text 79 = .ok (.ifCond .eq 16, 3) := by decide +kernel
theorem dX7_text_82 : decode cX7_text 82 = .ok (.bipush (-10), 2) := by decide +kernel
theorem dX7_text_84 : decode cX7_text 84 = .ok (.aload_n 0, 1) := by decide +kernel
theorem dX7_text_85 : decode cX7_text 85 = .ok (.getfield 19, 3) := by decide +kernel
theorem dX7_text_88 : decode cX7_text 88 = .ok (.getfield 202, 3) := by decide +kernel
theorem dX7_text_91 : decode cX7_text 91 = .ok (.isub, 1) := by decide +kernel
theorem dX7_text_92 : decode cX7_text 92 = .ok (.goto 10, 3) := by decide +kernel
theorem dX7_text_95 : decode cX7_text 95 = .ok (.aload_n 0, 1) := by decide +kernel
theorem dX7_text_96 : decode cX7_text 96 = .ok (.getfield 19, 3) := by decide +kernel
theorem dX7_text_99 : decode cX7_text 99 = .ok (.getfield 204, 3) := by decide +kernel
theorem dX7_text_102 : decode cX7_text 102 = .ok (.ireturn, 1) := by decide +kernel
theorem dX7_law_0 : decode cX7_law 0 = .ok (.iload_n 1, 1) := by decide +kernel
theorem dX7_law_1 : decode cX7_law 1 = .ok (.invokestatic 180, 3) := by decide +kernel
theorem dX7_law_4 : decode cX7_law 4 = .ok (.ifCond .ne 10, 3) := by decide +kernel
theorem dX7_law_7 : decode cX7_law 7 = .ok (.aload_n 0, 1) := by decide +kernel
theorem dX7_law_8 : decode cX7_law 8 = .ok (.ldc 67, 2) := by decide +kernel
theorem dX7_law_10 : decode cX7_law 10 = .ok (.invokevirtual 68, 3) := by decide +kernel
theorem dX7_law_13 : decode cX7_law 13 = .ok (.ireturn, 1) := by decide +kernel
theorem dX7_law_14 : decode cX7_law 14 = .ok (.aload_n 0, 1) := by decide +kernel
theorem dX7_law_15 : decode cX7_law 15 = .ok (.iload_n 1, 1) := by decide +kernel
theorem dX7_law_16 : decode cX7_law 16 = .ok (.iload_n 2, 1) := by decide +kernel
theorem dX7_law_17 : decode cX7_law 17 = .ok (.iload_n 3, 1) := by decide +kernel
theorem dX7_law_18 : decode cX7_law 18 = .ok (.iload 4, 2) := by decide +kernel
theorem dX7_law_20 : decode cX7_law 20 = .ok (.invokevirtual 207, 3) := by decide +kernel
theorem dX7_law_23 : decode cX7_law 23 = .ok (.ireturn, 1) := by decide +kernel
theorem dX7_same_0 : decode cX7_same 0 = .ok (.aload_n 0, 1) := by decide +kernel
theorem dX7_same_1 : decode cX7_same 1 = .ok (.iload_n 1, 1) := by decide +kernel
theorem dX7_same_2 : decode cX7_same 2 = .ok (.iload_n 2, 1) := by decide +kernel
theorem dX7_same_3 : decode cX7_same 3 = .ok (.invokevirtual 211, 3) := by decide +kernel
theorem dX7_same_6 : decode cX7_same 6 = .ok (.ifCond .eq 12, 3) := by decide +kernel
theorem dX7_same_9 : decode cX7_same 9 = .ok (.iload_n 3, 1) := by decide +kernel
theorem dX7_same_10 : decode cX7_same 10 = .ok (.iconst 0, 1) := by decide +kernel
theorem dX7_same_11 : decode cX7_same 11 = .ok (.iconst 2, 1) := by decide +kernel
theorem dX7_same_12 : decode cX7_same 12 = .ok (.invokestatic 57, 3) := by decide +kernel
theorem dX7_same_15 : decode cX7_same 15 = .ok (.ifCond .eq 10, 3) := by decide +kernel
theorem dX7_same_18 : decode cX7_same 18 = .ok (.aload_n 0, 1) := by decide +kernel
theorem dX7_same_19 : decode cX7_same 19 = .ok (.ldc 67, 2) := by decide +kernel
theorem dX7_same_21 : decode cX7_same 21 = .ok (.invokevirtual 68, 3) := by decide +kernel
theorem dX7_same_24 : decode cX7_same 24 = .ok (.ireturn, 1) := by decide +kernel
theorem dX7_same_25 : decode cX7_same 25 = .ok (.iconst 0, 1) := by decide +kernel
theorem dX7_same_26 : decode cX7_same 26 = .ok (.istore 4, 2) := by decide +kernel
theorem dX7_same_28 : decode cX7_same 28 = .ok (.iconst 0, 1) := by decide +kernel
theorem dX7_same_29 : decode cX7_same 29 = .ok (.istore 5, 2) := by decide +kernel
theorem dX7_same_31 : decode cX7_same 31 = .ok (.iconst 0, 1) := by decide +kernel
theorem dX7_same_32 : decode cX7_same 32 = .ok (.istore 6, 2) := by decide +kernel
theorem dX7_same_34 : decode cX7_same 34 = .ok (.iconst 1, 1) := by decide +kernel
theorem dX7_same_35 : decode cX7_same 35 = .ok (.istore 7, 2) := by decide +kernel
theorem dX7_same_37 : decode cX7_same 37 = .ok (.iload 7, 2) := by decide +kernel
theorem dX7_same_39 : decode cX7_same 39 = .ok (.aload_n 0, 1) := by decide +kernel
theorem dX7_same_40 : decode cX7_same 40 = .ok (.getfield 12, 3) := by decide +kernel
theorem dX7_same_43 : decode cX7_same 43 = .ok (.iload_n 1, 1) := by decide +kernel
theorem dX7_same_44 : decode cX7_same 44 = .ok (.invokevirtual 163, 3) := by decide +kernel
theorem dX7_same_47 : decode cX7_same 47 = .ok (.iconst 2, 1) := by decide +kernel
theorem dX7_same_48 : decode cX7_same 48 = .ok (.isub, 1) := by decide +kernel
theorem dX7_same_49 : decode cX7_same 49 = .ok (.if_icmp .gt 64, 3) := by decide +kernel
theorem dX7_same_52 : decode cX7_same 52 = .ok (.iconst 1, 1) := by decide +kernel
theorem dX7_same_53 : decode cX7_same 53 = .ok (.istore 8, 2) := by decide +kernel
theorem dX7_same_55 : decode cX7_same 55 = .ok (.iload 8, 2) := by decide +kernel
theorem dX7_same_57 : decode cX7_same 57 = .ok (.aload_n 0, 1) := by decide +kernel
theorem dX7_same_58 : decode cX7_same 58 = .ok (.getfield 12, 3) := by decide +kernel
theorem dX7_same_61 : decode cX7_same 61 = .ok (.iload_n 2, 1) := by decide +kernel
theorem dX7_same_62 : decode cX7_same 62 = .ok (.invokevirtual 163, 3) := by decide +kernel
theorem dX7_same_65 : decode cX7_same 65 = .ok (.iconst 2, 1) := by decide +kernel
theorem dX7_same_66 : decode cX7_same 66 = .ok (.isub, 1) := by decide +kernel
theorem dX7_same_67 : decode cX7_same 67 = .ok (.if_icmp .gt 40, 3) := by decide +kernel
theorem dX7_same_70 : decode cX7_same 70 = .ok (.aload_n 0, 1) := by decide +kernel
theorem dX7_same_71 : decode cX7_same 71 = .ok (.iload_n 1, 1) := by decide +kernel
theorem dX7_same_72 : decode cX7_same 72 = .ok (.iload 7, 2) := by decide +kernel
theorem dX7_same_74 : decode cX7_same 74 = .ok (.iload_n 2, 1) := by decide +kernel
theorem dX7_same_75 : decode cX7_same 75 = .ok (.iload 8, 2) := by decide +kernel
theorem dX7_same_77 : decode cX7_same 77 = .ok (.invokevirtual 214, 3) := by decide +kernel
theorem dX7_same_80 : decode cX7_same 80 = .ok (.istore 9, 2) := by decide +kernel
theorem dX7_same_82 : decode cX7_same 82 = .ok (.iload 9, 2) := by decide +kernel
theorem dX7_same_84 : decode cX7_same 84 = .ok (.iload 4, 2) := by decide +kernel
theorem dX7_same_86 : decode cX7_same 86 = .ok (.if_icmp .le 15, 3) := by decide +kernel
theorem dX7_same_89 : decode cX7_same 89 = .ok (.iload 9, 2) := by decide +kernel
theorem dX7_same_91 : decode cX7_same 91 = .ok (.istore 4, 2) := by decide +kernel
theorem dX7_same_93 : decode cX7_same 93 = .ok (.iload 7, 2) := by decide +kernel
theorem dX7_same_95 : decode cX7_same 95 = .ok (.istore 5, 2) := by decide +kernel
theorem dX7_same_97 : decode cX7_same 97 = .ok (.iload 8, 2) := by decide +kernel
theorem dX7_same_99 : decode cX7_same 99 = .ok (.istore 6, 2) := by decide +kernel
theorem dX7_same_101 : decode cX7_same 101 = .ok (.iinc 8 1, 3) := by decide +kernel
theorem dX7_same_104 : decode cX7_same 104 = .ok (.goto (-49), 3) := by decide +kernel
theorem dX7_same_107 : decode cX7_same 107 = .ok (.iinc 7 1, 3) := by decide +kernel
theorem dX7_same_110 : decode cX7_same 110 = .ok (.goto (-73), 3) := by decide +kernel
theorem dX7_same_113 : decode cX7_same 113 = .ok (.iload_n 3, 1) := by decide +kernel
theorem dX7_same_114 : decode cX7_same 114 = .ok (.ifCond .ne 8, 3) := by decide +kernel
theorem dX7_same_117 : decode cX7_same 117 = .ok (.iload 4, 2) := by decide +kernel
theorem dX7_same_119 : decode cX7_same 119 = .ok (.goto 15, 3) := by decide +kernel
theorem dX7_same_122 : decode cX7_same 122 = .ok (.iload_n 3, 1) := by decide +kernel
theorem dX7_same_123 : decode cX7_same 123 = .ok (.iconst 1, 1) := by decide +kernel
theorem dX7_same_124 : decode cX7_same 124 = .ok (.if_icmp .ne 8, 3) := by decide +kernel
theorem dX7_same_127 : decode cX7_same 127 = .ok (.iload 5, 2) := by decide +kernel
theorem dX7_same_129 : decode cX7_same 129 = .ok (.goto 5, 3) := by decide +kernel
theorem dX7_same_132 : decode cX7_same 132 = .ok (.iload 6, 2) := by decide +kernel
theorem dX7_same_134 : decode cX7_same 134 = .ok (.ireturn, 1) := by decide +kernel
theorem dX7_bent_0 : decode cX7_bent 0 = .ok (.aload_n 0, 1) := by decide +kernel
theorem dX7_bent_1 : decode cX7_bent 1 = .ok (.iload_n 1, 1) := by decide +kernel
theorem dX7_bent_2 : decode cX7_bent 2 = .ok (.iload_n 2, 1) := by decide +kernel
theorem dX7_bent_3 : decode cX7_bent 3 = .ok (.invokevirtual 211, 3) := by decide +kernel
theorem dX7_bent_6 : decode cX7_bent 6 = .ok (.ifCond .eq 20, 3) := by decide +kernel
theorem dX7_bent_9 : decode cX7_bent 9 = .ok (.iload_n 3, 1) := by decide +kernel
theorem dX7_bent_10 : decode cX7_bent 10 = .ok (.invokestatic 149, 3) := by decide +kernel
theorem dX7_bent_13 : decode cX7_bent 13 = .ok (.ifCond .eq 13, 3) := by decide +kernel
theorem dX7_bent_16 : decode cX7_bent 16 = .ok (.iload 4, 2) := by decide +kernel
theorem dX7_bent_18 : decode cX7_bent 18 = .ok (.iconst 0, 1) := by decide +kernel
theorem dX7_bent_19 : decode cX7_bent 19 = .ok (.iconst 5, 1) := by decide +kernel
theorem dX7_bent_20 : decode cX7_bent 20 = .ok (.invokestatic 57, 3) := by decide +kernel
theorem dX7_bent_23 : decode cX7_bent 23 = .ok (.ifCond .eq 10, 3) := by decide +kernel
theorem dX7_bent_26 : decode cX7_bent 26 = .ok (.aload_n 0, 1) := by decide +kernel
theorem dX7_bent_27 : decode cX7_bent 27 = .ok (.ldc 67, 2) := by decide +kernel
theorem dX7_bent_29 : decode cX7_bent 29 = .ok (.invokevirtual 68, 3) := by decide +kernel
theorem dX7_bent_32 : decode cX7_bent 32 = .ok (.ireturn, 1) := by decide +kernel
theorem dX7_bent_33 : decode cX7_bent 33 = .ok (.iload 4, 2) := by decide +kernel
theorem dX7_bent_35 : decode cX7_bent 35 = .ok (.ifCond .ne 14, 3) := by decide +kernel
theorem dX7_bent_38 : decode cX7_bent 38 = .ok (.aload_n 0, 1) := by decide +kernel
theorem dX7_bent_39 : decode cX7_bent 39 = .ok (.getfield 12, 3) := by decide +kernel
theorem dX7_bent_42 : decode cX7_bent 42 = .ok (.iload_n 1, 1) := by decide +kernel
theorem dX7_bent_43 : decode cX7_bent 43 = .ok (.iload_n 2, 1) := by decide +kernel
theorem dX7_bent_44 : decode cX7_bent 44 = .ok (.iload_n 3, 1) := by decide +kernel
theorem dX7_bent_45 : decode cX7_bent 45 = .ok (.invokestatic 217, 3) := by decide +kernel
theorem dX7_bent_48 : decode cX7_bent 48 = .ok (.ireturn, 1) := by decide +kernel
theorem dX7_bent_49 : decode cX7_bent 49 = .ok (.aload_n 0, 1) := by decide +kernel
theorem dX7_bent_50 : decode cX7_bent 50 = .ok (.getfield 12, 3) := by decide +kernel
theorem dX7_bent_53 : decode cX7_bent 53 = .ok (.iload_n 1, 1) := by decide +kernel
theorem dX7_bent_54 : decode cX7_bent 54 = .ok (.iload_n 2, 1) := by decide +kernel
theorem dX7_bent_55 : decode cX7_bent 55 = .ok (.iload_n 3, 1) := by decide +kernel
theorem dX7_bent_56 : decode cX7_bent 56 = .ok (.invokestatic 223, 3) := by decide +kernel
theorem dX7_bent_59 : decode cX7_bent 59 = .ok (.istore 5, 2) := by decide +kernel
theorem dX7_bent_61 : decode cX7_bent 61 = .ok (.iload 5, 2) := by decide +kernel
theorem dX7_bent_63 : decode cX7_bent 63 = .ok (.ifCond .ge 12, 3) := by decide +kernel
theorem dX7_bent_66 : decode cX7_bent 66 = .ok (.aload_n 0, 1) := by decide +kernel
theorem dX7_bent_67 : decode cX7_bent 67 = .ok (.ldc 117, 2) := by decide +kernel
theorem dX7_bent_69 : decode cX7_bent 69 = .ok (.invokevirtual 68, 3) := by decide +kernel
theorem dX7_bent_72 : decode cX7_bent 72 = .ok (.goto 10, 3) := by decide +kernel
theorem dX7_bent_75 : decode cX7_bent 75 = .ok (.iload 5, 2) := by decide +kernel
theorem dX7_bent_77 : decode cX7_bent 77 = .ok (.iload 4, 2) := by decide +kernel
theorem dX7_bent_79 : decode cX7_bent 79 = .ok (.invokestatic 226, 3) := by decide +kernel
theorem dX7_bent_82 : decode cX7_bent 82 = .ok (.ireturn, 1) := by decide +kernel
theorem dX7_pairs_0 : decode cX7_pairs 0 = .ok (.iload_n 1, 1) := by decide +kernel
theorem dX7_pairs_1 : decode cX7_pairs 1 = .ok (.invokestatic 149, 3) := by decide +kernel
theorem dX7_pairs_4 : decode cX7_pairs 4 = .ok (.ifCond .ne 10, 3) := by decide +kernel
theorem dX7_pairs_7 : decode cX7_pairs 7 = .ok (.aload_n 0, 1) := by decide +kernel
theorem dX7_pairs_8 : decode cX7_pairs 8 = .ok (.ldc 67, 2) := by decide +kernel
theorem dX7_pairs_10 : decode cX7_pairs 10 = .ok (.invokevirtual 68, 3) := by decide +kernel
theorem dX7_pairs_13 : decode cX7_pairs 13 = .ok (.ireturn, 1) := by decide +kernel
theorem dX7_pairs_14 : decode cX7_pairs 14 = .ok (.iconst 0, 1) := by decide +kernel
theorem dX7_pairs_15 : decode cX7_pairs 15 = .ok (.istore_n 2, 1) := by decide +kernel
theorem dX7_pairs_16 : decode cX7_pairs 16 = .ok (.iconst 0, 1) := by decide +kernel
theorem dX7_pairs_17 : decode cX7_pairs 17 = .ok (.istore_n 3, 1) := by decide +kernel
theorem dX7_pairs_18 : decode cX7_pairs 18 = .ok (.iload_n 3, 1) := by decide +kernel
theorem dX7_pairs_19 : decode cX7_pairs 19 = .ok (.aload_n 0, 1) := by decide +kernel
theorem dX7_pairs_20 : decode cX7_pairs 20 = .ok (.getfield 12, 3) := by decide +kernel
theorem dX7_pairs_23 : decode cX7_pairs 23 = .ok (.getfield 126, 3) := by decide +kernel
theorem dX7_pairs_26 : decode cX7_pairs 26 = .ok (.getfield 229, 3) := by decide +kernel
theorem dX7_pairs_29 : decode cX7_pairs 29 = .ok (.if_icmp .ge 56, 3) := by decide +kernel
theorem dX7_pairs_32 : decode cX7_pairs 32 = .ok (.iconst 0, 1) := by decide +kernel
theorem dX7_pairs_33 : decode cX7_pairs 33 = .ok (.istore 4, 2) := by decide +kernel
theorem dX7_pairs_35 : decode cX7_pairs 35 = .ok (.iload 4, 2) := by decide +kernel
theorem dX7_pairs_37 : decode cX7_pairs 37 = .ok (.aload_n 0, 1) := by decide +kernel
theorem dX7_pairs_38 : decode cX7_pairs 38 = .ok (.getfield 12, 3) := by decide +kernel
theorem dX7_pairs_41 : decode cX7_pairs 41 = .ok (.getfield 126, 3) := by decide +kernel
theorem dX7_pairs_44 : decode cX7_pairs 44 = .ok (.getfield 229, 3) := by decide +kernel
theorem dX7_pairs_47 : decode cX7_pairs 47 = .ok (.if_icmp .ge 32, 3) := by decide +kernel
theorem dX7_pairs_50 : decode cX7_pairs 50 = .ok (.iload_n 3, 1) := by decide +kernel
theorem dX7_pairs_51 : decode cX7_pairs 51 = .ok (.iload 4, 2) := by decide +kernel
theorem dX7_pairs_53 : decode cX7_pairs 53 = .ok (.if_icmp .eq 20, 3) := by decide +kernel
theorem dX7_pairs_56 : decode cX7_pairs 56 = .ok (.aload_n 0, 1) := by decide +kernel
theorem dX7_pairs_57 : decode cX7_pairs 57 = .ok (.getfield 12, 3) := by decide +kernel
theorem dX7_pairs_60 : decode cX7_pairs 60 = .ok (.iload_n 3, 1) := by decide +kernel
theorem dX7_pairs_61 : decode cX7_pairs 61 = .ok (.iload 4, 2) := by decide +kernel
theorem dX7_pairs_63 : decode cX7_pairs 63 = .ok (.iload_n 1, 1) := by decide +kernel
theorem dX7_pairs_64 : decode cX7_pairs 64 = .ok (.invokestatic 223, 3) := by decide +kernel
theorem dX7_pairs_67 : decode cX7_pairs 67 = .ok (.ifCond .lt 6, 3) := by decide +kernel
theorem dX7_pairs_70 : decode cX7_pairs 70 = .ok (.iinc 2 1, 3) := by decide +kernel
theorem dX7_pairs_73 : decode cX7_pairs 73 = .ok (.iinc 4 1, 3) := by decide +kernel
theorem dX7_pairs_76 : decode cX7_pairs 76 = .ok (.goto (-41), 3) := by decide +kernel
theorem dX7_pairs_79 : decode cX7_pairs 79 = .ok (.iinc 3 1, 3) := by decide +kernel
theorem dX7_pairs_82 : decode cX7_pairs 82 = .ok (.goto (-64), 3) := by decide +kernel
theorem dX7_pairs_85 : decode cX7_pairs 85 = .ok (.iload_n 2, 1) := by decide +kernel
theorem dX7_pairs_86 : decode cX7_pairs 86 = .ok (.ireturn, 1) := by decide +kernel
theorem dX7_prints_0 : decode cX7_prints 0 = .ok (.aload_n 0, 1) := by decide +kernel
theorem dX7_prints_1 : decode cX7_prints 1 = .ok (.iload_n 1, 1) := by decide +kernel
theorem dX7_prints_2 : decode cX7_prints 2 = .ok (.iload_n 2, 1) := by decide +kernel
theorem dX7_prints_3 : decode cX7_prints 3 = .ok (.invokevirtual 211, 3) := by decide +kernel
theorem dX7_prints_6 : decode cX7_prints 6 = .ok (.ifCond .eq 14, 3) := by decide +kernel
theorem dX7_prints_9 : decode cX7_prints 9 = .ok (.iload_n 3, 1) := by decide +kernel
theorem dX7_prints_10 : decode cX7_prints 10 = .ok (.iconst 1, 1) := by decide +kernel
theorem dX7_prints_11 : decode cX7_prints 11 = .ok (.sipush 9999, 3) := by decide +kernel
theorem dX7_prints_14 : decode cX7_prints 14 = .ok (.invokestatic 57, 3) := by decide +kernel
theorem dX7_prints_17 : decode cX7_prints 17 = .ok (.ifCond .eq 10, 3) := by decide +kernel
theorem dX7_prints_20 : decode cX7_prints 20 = .ok (.aload_n 0, 1) := by decide +kernel
theorem dX7_prints_21 : decode cX7_prints 21 = .ok (.ldc 67, 2) := by decide +kernel
theorem dX7_prints_23 : decode cX7_prints 23 = .ok (.invokevirtual 68, 3) := by decide +kernel
theorem dX7_prints_26 : decode cX7_prints 26 = .ok (.ireturn, 1) := by decide +kernel
theorem dX7_prints_27 : decode cX7_prints 27 = .ok (.iconst 0, 1) := by decide +kernel
theorem dX7_prints_28 : decode cX7_prints 28 = .ok (.istore 4, 2) := by decide +kernel
theorem dX7_prints_30 : decode cX7_prints 30 = .ok (.aload_n 0, 1) := by decide +kernel
theorem dX7_prints_31 : decode cX7_prints 31 = .ok (.getfield 12, 3) := by decide +kernel
theorem dX7_prints_34 : decode cX7_prints 34 = .ok (.iload_n 1, 1) := by decide +kernel
theorem dX7_prints_35 : decode cX7_prints 35 = .ok (.invokevirtual 163, 3) := by decide +kernel
theorem dX7_prints_38 : decode cX7_prints 38 = .ok (.aload_n 0, 1) := by decide +kernel
theorem dX7_prints_39 : decode cX7_prints 39 = .ok (.getfield 12, 3) := by decide +kernel
theorem dX7_prints_42 : decode cX7_prints 42 = .ok (.iload_n 2, 1) := by decide +kernel
theorem dX7_prints_43 : decode cX7_prints 43 = .ok (.invokevirtual 163, 3) := by decide +kernel
theorem dX7_prints_46 : decode cX7_prints 46 = .ok (.invokestatic 232, 3) := by decide +kernel
theorem dX7_prints_49 : decode cX7_prints 49 = .ok (.istore 5, 2) := by decide +kernel
theorem dX7_prints_51 : decode cX7_prints 51 = .ok (.iconst 0, 1) := by decide +kernel
theorem dX7_prints_52 : decode cX7_prints 52 = .ok (.istore 6, 2) := by decide +kernel
theorem dX7_prints_54 : decode cX7_prints 54 = .ok (.iload 6, 2) := by decide +kernel
theorem dX7_prints_56 : decode cX7_prints 56 = .ok (.iload 5, 2) := by decide +kernel
theorem dX7_prints_58 : decode cX7_prints 58 = .ok (.if_icmp .ge 43, 3) := by decide +kernel
theorem dX7_prints_61 : decode cX7_prints 61 = .ok (.aload_n 0, 1) := by decide +kernel
theorem dX7_prints_62 : decode cX7_prints 62 = .ok (.getfield 12, 3) := by decide +kernel
theorem dX7_prints_65 : decode cX7_prints 65 = .ok (.iload_n 1, 1) := by decide +kernel
theorem dX7_prints_66 : decode cX7_prints 66 = .ok (.iload 6, 2) := by decide +kernel
theorem dX7_prints_68 : decode cX7_prints 68 = .ok (.invokevirtual 156, 3) := by decide +kernel
theorem dX7_prints_71 : decode cX7_prints 71 = .ok (.iload_n 3, 1) := by decide +kernel
theorem dX7_prints_72 : decode cX7_prints 72 = .ok (.invokestatic 237, 3) := by decide +kernel
theorem dX7_prints_75 : decode cX7_prints 75 = .ok (.aload_n 0, 1) := by decide +kernel
theorem dX7_prints_76 : decode cX7_prints 76 = .ok (.getfield 12, 3) := by decide +kernel
theorem dX7_prints_79 : decode cX7_prints 79 = .ok (.iload_n 2, 1) := by decide +kernel
theorem dX7_prints_80 : decode cX7_prints 80 = .ok (.iload 6, 2) := by decide +kernel
theorem dX7_prints_82 : decode cX7_prints 82 = .ok (.invokevirtual 156, 3) := by decide +kernel
theorem dX7_prints_85 : decode cX7_prints 85 = .ok (.iload_n 3, 1) := by decide +kernel
theorem dX7_prints_86 : decode cX7_prints 86 = .ok (.invokestatic 237, 3) := by decide +kernel
theorem dX7_prints_89 : decode cX7_prints 89 = .ok (.if_icmp .eq 6, 3) := by decide +kernel
theorem dX7_prints_92 : decode cX7_prints 92 = .ok (.iinc 4 1, 3) := by decide +kernel
theorem dX7_prints_95 : decode cX7_prints 95 = .ok (.iinc 6 1, 3) := by decide +kernel
theorem dX7_prints_98 : decode cX7_prints 98 = .ok (.goto (-44), 3) := by decide +kernel
theorem dX7_prints_101 : decode cX7_prints 101 = .ok (.iload 4, 2) := by decide +kernel
theorem dX7_prints_103 : decode cX7_prints 103 = .ok (.ireturn, 1) := by decide +kernel
