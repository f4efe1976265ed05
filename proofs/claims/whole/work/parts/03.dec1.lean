theorem dX7_worked_0 : decode cX7_worked 0 = .ok (.aload_n 0, 1) := by decide +kernel
theorem dX7_worked_1 : decode cX7_worked 1 = .ok (.getfield 12, 3) := by decide +kernel
theorem dX7_worked_4 : decode cX7_worked 4 = .ok (.getfield 126, 3) := by decide +kernel
theorem dX7_worked_7 : decode cX7_worked 7 = .ok (.iload_n 1, 1) := by decide +kernel
theorem dX7_worked_8 : decode cX7_worked 8 = .ok (.invokevirtual 101, 3) := by decide +kernel
theorem dX7_worked_11 : decode cX7_worked 11 = .ok (.ifCond .eq 22, 3) := by decide +kernel
theorem dX7_worked_14 : decode cX7_worked 14 = .ok (.iload_n 2, 1) := by decide +kernel
theorem dX7_worked_15 : decode cX7_worked 15 = .ok (.iconst 0, 1) := by decide +kernel
theorem dX7_worked_16 : decode cX7_worked 16 = .ok (.ldc 240, 2) := by decide +kernel
theorem dX7_worked_18 : decode cX7_worked 18 = .ok (.invokestatic 57, 3) := by decide +kernel
theorem dX7_worked_21 : decode cX7_worked 21 = .ok (.ifCond .ne 12, 3) := by decide +kernel
theorem dX7_worked_24 : decode cX7_worked 24 = .ok (.iload_n 3, 1) := by decide +kernel
theorem dX7_worked_25 : decode cX7_worked 25 = .ok (.iconst 0, 1) := by decide +kernel
theorem dX7_worked_26 : decode cX7_worked 26 = .ok (.iconst 2, 1) := by decide +kernel
theorem dX7_worked_27 : decode cX7_worked 27 = .ok (.invokestatic 57, 3) := by decide +kernel
theorem dX7_worked_30 : decode cX7_worked 30 = .ok (.ifCond .eq 10, 3) := by decide +kernel
theorem dX7_worked_33 : decode cX7_worked 33 = .ok (.aload_n 0, 1) := by decide +kernel
theorem dX7_worked_34 : decode cX7_worked 34 = .ok (.ldc 67, 2) := by decide +kernel
theorem dX7_worked_36 : decode cX7_worked 36 = .ok (.invokevirtual 68, 3) := by decide +kernel
theorem dX7_worked_39 : decode cX7_worked 39 = .ok (.ireturn, 1) := by decide +kernel
theorem dX7_worked_40 : decode cX7_worked 40 = .ok (.iconst 1, 1) := by decide +kernel
theorem dX7_worked_41 : decode cX7_worked 41 = .ok (.aload_n 0, 1) := by decide +kernel
theorem dX7_worked_42 : decode cX7_worked 42 = .ok (.getfield 12, 3) := by decide +kernel
theorem dX7_worked_45 : decode cX7_worked 45 = .ok (.getfield 72, 3) := by decide +kernel
theorem dX7_worked_48 : decode cX7_worked 48 = .ok (.aload_n 0, 1) := by decide +kernel
theorem dX7_worked_49 : decode cX7_worked 49 = .ok (.getfield 12, 3) := by decide +kernel
theorem dX7_worked_52 : decode cX7_worked 52 = .ok (.getfield 126, 3) := by decide +kernel
theorem dX7_worked_55 : decode cX7_worked 55 = .ok (.iload_n 1, 1) := by decide +kernel
theorem dX7_worked_56 : decode cX7_worked 56 = .ok (.iconst 2, 1) := by decide +kernel
theorem dX7_worked_57 : decode cX7_worked 57 = .ok (.invokevirtual 76, 3) := by decide +kernel
theorem dX7_worked_60 : decode cX7_worked 60 = .ok (.iconst 0, 1) := by decide +kernel
theorem dX7_worked_61 : decode cX7_worked 61 = .ok (.invokevirtual 76, 3) := by decide +kernel
theorem dX7_worked_64 : decode cX7_worked 64 = .ok (.invokestatic 241, 3) := by decide +kernel
theorem dX7_worked_67 : decode cX7_worked 67 = .ok (.i2l, 1) := by decide +kernel
theorem dX7_worked_68 : decode cX7_worked 68 = .ok (.lstore 4, 2) := by decide +kernel
theorem dX7_worked_70 : decode cX7_worked 70 = .ok (.iconst 0, 1) := by decide +kernel
theorem dX7_worked_71 : decode cX7_worked 71 = .ok (.istore 6, 2) := by decide +kernel
theorem dX7_worked_73 : decode cX7_worked 73 = .ok (.iconst 0, 1) := by decide +kernel
theorem dX7_worked_74 : decode cX7_worked 74 = .ok (.istore 7, 2) := by decide +kernel
theorem dX7_worked_76 : decode cX7_worked 76 = .ok (.lconst 0, 1) := by decide +kernel
theorem dX7_worked_77 : decode cX7_worked 77 = .ok (.lstore 8, 2) := by decide +kernel
theorem dX7_worked_79 : decode cX7_worked 79 = .ok (.iconst 0, 1) := by decide +kernel
theorem dX7_worked_80 : decode cX7_worked 80 = .ok (.istore 10, 2) := by decide +kernel
theorem dX7_worked_82 : decode cX7_worked 82 = .ok (.iload 10, 2) := by decide +kernel
theorem dX7_worked_84 : decode cX7_worked 84 = .ok (.aload_n 0, 1) := by decide +kernel
theorem dX7_worked_85 : decode cX7_worked 85 = .ok (.getfield 12, 3) := by decide +kernel
theorem dX7_worked_88 : decode cX7_worked 88 = .ok (.iload_n 1, 1) := by decide +kernel
theorem dX7_worked_89 : decode cX7_worked 89 = .ok (.invokevirtual 163, 3) := by decide +kernel
theorem dX7_worked_92 : decode cX7_worked 92 = .ok (.if_icmp .ge 80, 3) := by decide +kernel
theorem dX7_worked_95 : decode cX7_worked 95 = .ok (.aload_n 0, 1) := by decide +kernel
theorem dX7_worked_96 : decode cX7_worked 96 = .ok (.getfield 12, 3) := by decide +kernel
theorem dX7_worked_99 : decode cX7_worked 99 = .ok (.iload_n 1, 1) := by decide +kernel
theorem dX7_worked_100 : decode cX7_worked 100 = .ok (.iload 10, 2) := by decide +kernel
theorem dX7_worked_102 : decode cX7_worked 102 = .ok (.invokevirtual 156, 3) := by decide +kernel
theorem dX7_worked_105 : decode cX7_worked 105 = .ok (.i2l, 1) := by decide +kernel
theorem dX7_worked_106 : decode cX7_worked 106 = .ok (.aload_n 0, 1) := by decide +kernel
theorem dX7_worked_107 : decode cX7_worked 107 = .ok (.iload_n 1, 1) := by decide +kernel
theorem dX7_worked_108 : decode cX7_worked 108 = .ok (.iload 10, 2) := by decide +kernel
theorem dX7_worked_110 : decode cX7_worked 110 = .ok (.invokevirtual 141, 3) := by decide +kernel
theorem dX7_worked_113 : decode cX7_worked 113 = .ok (.lsub, 1) := by decide +kernel
theorem dX7_worked_114 : decode cX7_worked 114 = .ok (.invokestatic 244, 3) := by decide +kernel
theorem dX7_worked_117 : decode cX7_worked 117 = .ok (.lstore 11, 2) := by decide +kernel
theorem dX7_worked_119 : decode cX7_worked 119 = .ok (.lload 8, 2) := by decide +kernel
theorem dX7_worked_121 : decode cX7_worked 121 = .ok (.lload 11, 2) := by decide +kernel
theorem dX7_worked_123 : decode cX7_worked 123 = .ok (.invokestatic 248, 3) := by decide +kernel
theorem dX7_worked_126 : decode cX7_worked 126 = .ok (.lstore 8, 2) := by decide +kernel
theorem dX7_worked_128 : decode cX7_worked 128 = .ok (.iload 6, 2) := by decide +kernel
theorem dX7_worked_130 : decode cX7_worked 130 = .ok (.lload 11, 2) := by decide +kernel
theorem dX7_worked_132 : decode cX7_worked 132 = .ok (.iload_n 2, 1) := by decide +kernel
theorem dX7_worked_133 : decode cX7_worked 133 = .ok (.i2l, 1) := by decide +kernel
theorem dX7_worked_134 : decode cX7_worked 134 = .ok (.lcmp, 1) := by decide +kernel
theorem dX7_worked_135 : decode cX7_worked 135 = .ok (.ifCond .gt 7, 3) := by decide +kernel
theorem dX7_worked_138 : decode cX7_worked 138 = .ok (.iconst 1, 1) := by decide +kernel
theorem dX7_worked_139 : decode cX7_worked 139 = .ok (.goto 4, 3) := by decide +kernel
theorem dX7_worked_142 : decode cX7_worked 142 = .ok (.iconst 0, 1) := by decide +kernel
theorem dX7_worked_143 : decode cX7_worked 143 = .ok (.iadd, 1) := by decide +kernel
theorem dX7_worked_144 : decode cX7_worked 144 = .ok (.istore 6, 2) := by decide +kernel
theorem dX7_worked_146 : decode cX7_worked 146 = .ok (.iload 7, 2) := by decide +kernel
theorem dX7_worked_148 : decode cX7_worked 148 = .ok (.lload 11, 2) := by decide +kernel
theorem dX7_worked_150 : decode cX7_worked 150 = .ok (.lload 4, 2) := by decide +kernel
theorem dX7_worked_152 : decode cX7_worked 152 = .ok (.lrem, 1) := by decide +kernel
theorem dX7_worked_153 : decode cX7_worked 153 = .ok (.lconst 0, 1) := by decide +kernel
theorem dX7_worked_154 : decode cX7_worked 154 = .ok (.lcmp, 1) := by decide +kernel
theorem dX7_worked_155 : decode cX7_worked 155 = .ok (.ifCond .eq 7, 3) := by decide +kernel
theorem dX7_worked_158 : decode cX7_worked 158 = .ok (.iconst 1, 1) := by decide +kernel
theorem dX7_worked_159 : decode cX7_worked 159 = .ok (.goto 4, 3) := by decide +kernel
theorem dX7_worked_162 : decode cX7_worked 162 = .ok (.iconst 0, 1) := by decide +kernel
theorem dX7_worked_163 : decode cX7_worked 163 = .ok (.iadd, 1) := by decide +kernel
theorem dX7_worked_164 : decode cX7_worked 164 = .ok (.istore 7, 2) := by decide +kernel
theorem dX7_worked_166 : decode cX7_worked 166 = .ok (.iinc 10 1, 3) := by decide +kernel
theorem dX7_worked_169 : decode cX7_worked 169 = .ok (.goto (-87), 3) := by decide +kernel
theorem dX7_worked_172 : decode cX7_worked 172 = .ok (.iload_n 3, 1) := by decide +kernel
theorem dX7_worked_173 : decode cX7_worked 173 = .ok (.ifCond .ne 8, 3) := by decide +kernel
theorem dX7_worked_176 : decode cX7_worked 176 = .ok (.iload 6, 2) := by decide +kernel
theorem dX7_worked_178 : decode cX7_worked 178 = .ok (.goto 22, 3) := by decide +kernel
theorem dX7_worked_181 : decode cX7_worked 181 = .ok (.iload_n 3, 1) := by decide +kernel
theorem dX7_worked_182 : decode cX7_worked 182 = .ok (.iconst 1, 1) := by decide +kernel
theorem dX7_worked_183 : decode cX7_worked 183 = .ok (.if_icmp .ne 15, 3) := by decide +kernel
theorem dX7_worked_186 : decode cX7_worked 186 = .ok (.lload 8, 2) := by decide +kernel
theorem dX7_worked_188 : decode cX7_worked 188 = .ok (.ldc2_w 251, 3) := by decide +kernel
theorem dX7_worked_191 : decode cX7_worked 191 = .ok (.invokestatic 253, 3) := by decide +kernel
theorem dX7_worked_194 : decode cX7_worked 194 = .ok (.l2i, 1) := by decide +kernel
theorem dX7_worked_195 : decode cX7_worked 195 = .ok (.goto 5, 3) := by decide +kernel
theorem dX7_worked_198 : decode cX7_worked 198 = .ok (.iload 7, 2) := by decide +kernel
theorem dX7_worked_200 : decode cX7_worked 200 = .ok (.ireturn, 1) := by decide +kernel
theorem dX7_sign_0 : decode cX7_sign 0 = .ok (.aload_n 0, 1) := by decide +kernel
theorem dX7_sign_1 : decode cX7_sign 1 = .ok (.getfield 12, 3) := by decide +kernel
theorem dX7_sign_4 : decode cX7_sign 4 = .ok (.getfield 126, 3) := by decide +kernel
theorem dX7_sign_7 : decode cX7_sign 7 = .ok (.iload_n 1, 1) := by decide +kernel
theorem dX7_sign_8 : decode cX7_sign 8 = .ok (.invokevirtual 101, 3) := by decide +kernel
theorem dX7_sign_11 : decode cX7_sign 11 = .ok (.ifCond .ne 10, 3) := by decide +kernel
theorem dX7_sign_14 : decode cX7_sign 14 = .ok (.aload_n 0, 1) := by decide +kernel
theorem dX7_sign_15 : decode cX7_sign 15 = .ok (.ldc 67, 2) := by decide +kernel
theorem dX7_sign_17 : decode cX7_sign 17 = .ok (.invokevirtual 68, 3) := by decide +kernel
theorem dX7_sign_20 : decode cX7_sign 20 = .ok (.ireturn, 1) := by decide +kernel
theorem dX7_sign_21 : decode cX7_sign 21 = .ok (.aload_n 0, 1) := by decide +kernel
theorem dX7_sign_22 : decode cX7_sign 22 = .ok (.iload_n 1, 1) := by decide +kernel
theorem dX7_sign_23 : decode cX7_sign 23 = .ok (.invokevirtual 255, 3) := by decide +kernel
theorem dX7_sign_26 : decode cX7_sign 26 = .ok (.ireturn, 1) := by decide +kernel
theorem dX7_unsigned_0 : decode cX7_unsigned 0 = .ok (.iconst 0, 1) := by decide +kernel
theorem dX7_unsigned_1 : decode cX7_unsigned 1 = .ok (.istore_n 1, 1) := by decide +kernel
theorem dX7_unsigned_2 : decode cX7_unsigned 2 = .ok (.iconst 0, 1) := by decide +kernel
theorem dX7_unsigned_3 : decode cX7_unsigned 3 = .ok (.istore_n 2, 1) := by decide +kernel
theorem dX7_unsigned_4 : decode cX7_unsigned 4 = .ok (.iload_n 2, 1) := by decide +kernel
theorem dX7_unsigned_5 : decode cX7_unsigned 5 = .ok (.aload_n 0, 1) := by decide +kernel
theorem dX7_unsigned_6 : decode cX7_unsigned 6 = .ok (.getfield 12, 3) := by decide +kernel
theorem dX7_unsigned_9 : decode cX7_unsigned 9 = .ok (.getfield 126, 3) := by decide +kernel
theorem dX7_unsigned_12 : decode cX7_unsigned 12 = .ok (.getfield 229, 3) := by decide +kernel
theorem dX7_unsigned_15 : decode cX7_unsigned 15 = .ok (.if_icmp .ge 24, 3) := by decide +kernel
theorem dX7_unsigned_18 : decode cX7_unsigned 18 = .ok (.aload_n 0, 1) := by decide +kernel
theorem dX7_unsigned_19 : decode cX7_unsigned 19 = .ok (.iload_n 2, 1) := by decide +kernel
theorem dX7_unsigned_20 : decode cX7_unsigned 20 = .ok (.invokevirtual 255, 3) := by decide +kernel
theorem dX7_unsigned_23 : decode cX7_unsigned 23 = .ok (.iconst 2, 1) := by decide +kernel
theorem dX7_unsigned_24 : decode cX7_unsigned 24 = .ok (.if_icmp .ne 9, 3) := by decide +kernel
theorem dX7_unsigned_27 : decode cX7_unsigned 27 = .ok (.iload_n 1, 1) := by decide +kernel
theorem dX7_unsigned_28 : decode cX7_unsigned 28 = .ok (.iconst 1, 1) := by decide +kernel
theorem dX7_unsigned_29 : decode cX7_unsigned 29 = .ok (.iload_n 2, 1) := by decide +kernel
theorem dX7_unsigned_30 : decode cX7_unsigned 30 = .ok (.ishl, 1) := by decide +kernel
theorem dX7_unsigned_31 : decode cX7_unsigned 31 = .ok (.ior, 1) := by decide +kernel
theorem dX7_unsigned_32 : decode cX7_unsigned 32 = .ok (.istore_n 1, 1) := by decide +kernel
theorem dX7_unsigned_33 : decode cX7_unsigned 33 = .ok (.iinc 2 1, 3) := by decide +kernel
theorem dX7_unsigned_36 : decode cX7_unsigned 36 = .ok (.goto (-32), 3) := by decide +kernel
theorem dX7_unsigned_39 : decode cX7_unsigned 39 = .ok (.iload_n 1, 1) := by decide +kernel
theorem dX7_unsigned_40 : decode cX7_unsigned 40 = .ok (.ireturn, 1) := by decide +kernel
theorem dX7_honest_0 : decode cX7_honest 0 = .ok (.iload_n 1, 1) := by decide +kernel
theorem dX7_honest_1 : decode cX7_honest 1 = .ok (.iconst 1, 1) := by decide +kernel
theorem dX7_honest_2 : decode cX7_honest 2 = .ok (.bipush 8, 2) := by decide +kernel
theorem dX7_honest_4 : decode cX7_honest 4 = .ok (.invokestatic 57, 3) := by decide +kernel
theorem dX7_honest_7 : decode cX7_honest 7 = .ok (.ifCond .ne 32, 3) := by decide +kernel
theorem dX7_honest_10 : decode cX7_honest 10 = .ok (.iload_n 2, 1) := by decide +kernel
theorem dX7_honest_11 : decode cX7_honest 11 = .ok (.iconst 1, 1) := by decide +kernel
theorem dX7_honest_12 : decode cX7_honest 12 = .ok (.bipush 50, 2) := by decide +kernel
theorem dX7_honest_14 : decode cX7_honest 14 = .ok (.invokestatic 57, 3) := by decide +kernel
theorem dX7_honest_17 : decode cX7_honest 17 = .ok (.ifCond .ne 22, 3) := by decide +kernel
theorem dX7_honest_20 : decode cX7_honest 20 = .ok (.iload_n 3, 1) := by decide +kernel
theorem dX7_honest_21 : decode cX7_honest 21 = .ok (.iconst 0, 1) := by decide +kernel
theorem dX7_honest_22 : decode cX7_honest 22 = .ok (.iload_n 2, 1) := by decide +kernel
theorem dX7_honest_23 : decode cX7_honest 23 = .ok (.invokestatic 57, 3) := by decide +kernel
theorem dX7_honest_26 : decode cX7_honest 26 = .ok (.ifCond .ne 13, 3) := by decide +kernel
theorem dX7_honest_29 : decode cX7_honest 29 = .ok (.iload 4, 2) := by decide +kernel
theorem dX7_honest_31 : decode cX7_honest 31 = .ok (.iconst 0, 1) := by decide +kernel
theorem dX7_honest_32 : decode cX7_honest 32 = .ok (.iconst 1, 1) := by decide +kernel
theorem dX7_honest_33 : decode cX7_honest 33 = .ok (.invokestatic 57, 3) := by decide +kernel
theorem dX7_honest_36 : decode cX7_honest 36 = .ok (.ifCond .eq 11, 3) := by decide +kernel
theorem dX7_honest_39 : decode cX7_honest 39 = .ok (.aload_n 0, 1) := by decide +kernel
theorem dX7_honest_40 : decode cX7_honest 40 = .ok (.ldc 67, 2) := by decide +kernel
theorem dX7_honest_42 : decode cX7_honest 42 = .ok (.invokevirtual 68, 3) := by decide +kernel
theorem dX7_honest_45 : decode cX7_honest 45 = .ok (.i2l, 1) := by decide +kernel
theorem dX7_honest_46 : decode cX7_honest 46 = .ok (.lreturn, 1) := by decide +kernel
theorem dX7_honest_47 : decode cX7_honest 47 = .ok (.iconst 2, 1) := by decide +kernel
theorem dX7_honest_48 : decode cX7_honest 48 = .ok (.iload_n 3, 1) := by decide +kernel
theorem dX7_honest_49 : decode cX7_honest 49 = .ok (.imul, 1) := by decide +kernel
theorem dX7_honest_50 : decode cX7_honest 50 = .ok (.iconst 1, 1) := by decide +kernel
theorem dX7_honest_51 : decode cX7_honest 51 = .ok (.iadd, 1) := by decide +kernel
theorem dX7_honest_52 : decode cX7_honest 52 = .ok (.istore 5, 2) := by decide +kernel
theorem dX7_honest_54 : decode cX7_honest 54 = .ok (.iconst 2, 1) := by decide +kernel
theorem dX7_honest_55 : decode cX7_honest 55 = .ok (.iload_n 2, 1) := by decide +kernel
theorem dX7_honest_56 : decode cX7_honest 56 = .ok (.imul, 1) := by decide +kernel
theorem dX7_honest_57 : decode cX7_honest 57 = .ok (.iconst 1, 1) := by decide +kernel
theorem dX7_honest_58 : decode cX7_honest 58 = .ok (.iadd, 1) := by decide +kernel
theorem dX7_honest_59 : decode cX7_honest 59 = .ok (.istore 6, 2) := by decide +kernel
theorem dX7_honest_61 : decode cX7_honest 61 = .ok (.iload 4, 2) := by decide +kernel
theorem dX7_honest_63 : decode cX7_honest 63 = .ok (.ifCond .ne 8, 3) := by decide +kernel
theorem dX7_honest_66 : decode cX7_honest 66 = .ok (.iload 5, 2) := by decide +kernel
theorem dX7_honest_68 : decode cX7_honest 68 = .ok (.goto 5, 3) := by decide +kernel
theorem dX7_honest_71 : decode cX7_honest 71 = .ok (.iload 6, 2) := by decide +kernel
theorem dX7_honest_73 : decode cX7_honest 73 = .ok (.iload 5, 2) := by decide +kernel
theorem dX7_honest_75 : decode cX7_honest 75 = .ok (.iload 6, 2) := by decide +kernel
theorem dX7_honest_77 : decode cX7_honest 77 = .ok (.invokestatic 258, 3) := by decide +kernel
theorem dX7_honest_80 : decode cX7_honest 80 = .ok (.idiv, 1) := by decide +kernel
theorem dX7_honest_81 : decode cX7_honest 81 = .ok (.istore 7, 2) := by decide +kernel
theorem dX7_honest_83 : decode cX7_honest 83 = .ok (.lconst 1, 1) := by decide +kernel
theorem dX7_honest_84 : decode cX7_honest 84 = .ok (.lstore 8, 2) := by decide +kernel
theorem dX7_honest_86 : decode cX7_honest 86 = .ok (.iconst 0, 1) := by decide +kernel
theorem dX7_honest_87 : decode cX7_honest 87 = .ok (.istore 10, 2) := by decide +kernel
theorem dX7_honest_89 : decode cX7_honest 89 = .ok (.iload 10, 2) := by decide +kernel
theorem dX7_honest_91 : decode cX7_honest 91 = .ok (.iload_n 1, 1) := by decide +kernel
theorem dX7_honest_92 : decode cX7_honest 92 = .ok (.if_icmp .ge 17, 3) := by decide +kernel
theorem dX7_honest_95 : decode cX7_honest 95 = .ok (.lload 8, 2) := by decide +kernel
theorem dX7_honest_97 : decode cX7_honest 97 = .ok (.iload 7, 2) := by decide +kernel
theorem dX7_honest_99 : decode cX7_honest 99 = .ok (.i2l, 1) := by decide +kernel
theorem dX7_honest_100 : decode cX7_honest 100 = .ok (.lmul, 1) := by decide +kernel
theorem dX7_honest_101 : decode cX7_honest 101 = .ok (.lstore 8, 2) := by decide +kernel
theorem dX7_honest_103 : decode cX7_honest 103 = .ok (.iinc 10 1, 3) := by decide +kernel
theorem dX7_honest_106 : decode cX7_honest 106 = .ok (.goto (-17), 3) := by decide +kernel
theorem dX7_honest_109 : decode cX7_honest 109 = .ok (.lload 8, 2) := by decide +kernel
theorem dX7_honest_111 : decode cX7_honest 111 = .ok (.lreturn, 1) := by decide +kernel
theorem dX7_could_0 : decode cX7_could 0 = .ok (.aload_n 0, 1) := by decide +kernel
theorem dX7_could_1 : decode cX7_could 1 = .ok (.getfield 12, 3) := by decide +kernel
theorem dX7_could_4 : decode cX7_could 4 = .ok (.getfield 126, 3) := by decide +kernel
theorem dX7_could_7 : decode cX7_could 7 = .ok (.iload_n 1, 1) := by decide +kernel
theorem dX7_could_8 : decode cX7_could 8 = .ok (.invokevirtual 101, 3) := by decide +kernel
theorem dX7_could_11 : decode cX7_could 11 = .ok (.ifCond .eq 10, 3) := by decide +kernel
theorem dX7_could_14 : decode cX7_could 14 = .ok (.iload_n 2, 1) := by decide +kernel
theorem dX7_could_15 : decode cX7_could 15 = .ok (.invokestatic 149, 3) := by decide +kernel
theorem dX7_could_18 : decode cX7_could 18 = .ok (.ifCond .ne 10, 3) := by decide +kernel
theorem dX7_could_21 : decode cX7_could 21 = .ok (.aload_n 0, 1) := by decide +kernel
theorem dX7_could_22 : decode cX7_could 22 = .ok (.ldc 67, 2) := by decide +kernel
theorem dX7_could_24 : decode cX7_could 24 = .ok (.invokevirtual 68, 3) := by decide +kernel
theorem dX7_could_27 : decode cX7_could 27 = .ok (.ireturn, 1) := by decide +kernel
theorem dX7_could_28 : decode cX7_could 28 = .ok (.aload_n 0, 1) := by decide +kernel
theorem dX7_could_29 : decode cX7_could 29 = .ok (.getfield 12, 3) := by decide +kernel
theorem dX7_could_32 : decode cX7_could 32 = .ok (.iload_n 1, 1) := by decide +kernel
theorem dX7_could_33 : decode cX7_could 33 = .ok (.iload_n 2, 1) := by decide +kernel
theorem dX7_could_34 : decode cX7_could 34 = .ok (.invokestatic 261, 3) := by decide +kernel
theorem dX7_could_37 : decode cX7_could 37 = .ok (.ireturn, 1) := by decide +kernel
theorem dX7_sources_0 : decode cX7_sources 0 = .ok (.iload_n 1, 1) := by decide +kernel
theorem dX7_sources_1 : decode cX7_sources 1 = .ok (.invokestatic 149, 3) := by decide +kernel
theorem dX7_sources_4 : decode cX7_sources 4 = .ok (.ifCond .ne 10, 3) := by decide +kernel
theorem dX7_sources_7 : decode cX7_sources 7 = .ok (.aload_n 0, 1) := by decide +kernel
theorem dX7_sources_8 : decode cX7_sources 8 = .ok (.ldc 67, 2) := by decide +kernel
theorem dX7_sources_10 : decode cX7_sources 10 = .ok (.invokevirtual 68, 3) := by decide +kernel
theorem dX7_sources_13 : decode cX7_sources 13 = .ok (.ireturn, 1) := by decide +kernel
theorem dX7_sources_14 : decode cX7_sources 14 = .ok (.iconst 0, 1) := by decide +kernel
theorem dX7_sources_15 : decode cX7_sources 15 = .ok (.istore_n 2, 1) := by decide +kernel
theorem dX7_sources_16 : decode cX7_sources 16 = .ok (.iconst 0, 1) := by decide +kernel
theorem dX7_sources_17 : decode cX7_sources 17 = .ok (.istore_n 3, 1) := by decide +kernel
theorem dX7_sources_18 : decode cX7_sources 18 = .ok (.iload_n 3, 1) := by decide +kernel
theorem dX7_sources_19 : decode cX7_sources 19 = .ok (.aload_n 0, 1) := by decide +kernel
theorem dX7_sources_20 : decode cX7_sources 20 = .ok (.getfield 12, 3) := by decide +kernel
theorem dX7_sources_23 : decode cX7_sources 23 = .ok (.getfield 126, 3) := by decide +kernel
theorem dX7_sources_26 : decode cX7_sources 26 = .ok (.getfield 229, 3) := by decide +kernel
theorem dX7_sources_29 : decode cX7_sources 29 = .ok (.if_icmp .ge 27, 3) := by decide +kernel
theorem dX7_sources_32 : decode cX7_sources 32 = .ok (.aload_n 0, 1) := by decide +kernel
theorem dX7_sources_33 : decode cX7_sources 33 = .ok (.getfield 12, 3) := by decide +kernel
theorem dX7_sources_36 : decode cX7_sources 36 = .ok (.iload_n 3, 1) := by decide +kernel
theorem dX7_sources_37 : decode cX7_sources 37 = .ok (.iload_n 1, 1) := by decide +kernel
theorem dX7_sources_38 : decode cX7_sources 38 = .ok (.invokestatic 261, 3) := by decide +kernel
theorem dX7_sources_41 : decode cX7_sources 41 = .ok (.ifCond .ne 9, 3) := by decide +kernel
theorem dX7_sources_44 : decode cX7_sources 44 = .ok (.iload_n 2, 1) := by decide +kernel
theorem dX7_sources_45 : decode cX7_sources 45 = .ok (.iconst 1, 1) := by decide +kernel
theorem dX7_sources_46 : decode cX7_sources 46 = .ok (.iload_n 3, 1) := by decide +kernel
theorem dX7_sources_47 : decode cX7_sources 47 = .ok (.ishl, 1) := by decide +kernel
theorem dX7_sources_48 : decode cX7_sources 48 = .ok (.ior, 1) := by decide +kernel
theorem dX7_sources_49 : decode cX7_sources 49 = .ok (.istore_n 2, 1) := by decide +kernel
theorem dX7_sources_50 : decode cX7_sources 50 = .ok (.iinc 3 1, 3) := by decide +kernel
theorem dX7_sources_53 : decode cX7_sources 53 = .ok (.goto (-35), 3) := by decide +kernel
theorem dX7_sources_56 : decode cX7_sources 56 = .ok (.iload_n 2, 1) := by decide +kernel
theorem dX7_sources_57 : decode cX7_sources 57 = .ok (.ireturn, 1) := by decide +kernel
theorem dX7_hands_0 : decode cX7_hands 0 = .ok (.iload_n 1, 1) := by decide +kernel
theorem dX7_hands_1 : decode cX7_hands 1 = .ok (.invokestatic 149, 3) := by decide +kernel
theorem dX7_hands_4 : decode cX7_hands 4 = .ok (.ifCond .ne 10, 3) := by decide +kernel
theorem dX7_hands_7 : decode cX7_hands 7 = .ok (.aload_n 0, 1) := by decide +kernel
theorem dX7_hands_8 : decode cX7_hands 8 = .ok (.ldc 67, 2) := by decide +kernel
theorem dX7_hands_10 : decode cX7_hands 10 = .ok (.invokevirtual 68, 3) := by decide +kernel
theorem dX7_hands_13 : decode cX7_hands 13 = .ok (.ireturn, 1) := by decide +kernel
theorem dX7_hands_14 : decode cX7_hands 14 = .ok (.aload_n 0, 1) := by decide +kernel
theorem dX7_hands_15 : decode cX7_hands 15 = .ok (.iload_n 1, 1) := by decide +kernel
theorem dX7_hands_16 : decode cX7_hands 16 = .ok (.invokevirtual 265, 3) := by decide +kernel
theorem dX7_hands_19 : decode cX7_hands 19 = .ok (.istore_n 2, 1) := by decide +kernel
theorem dX7_hands_20 : decode cX7_hands 20 = .ok (.sipush 255, 3) := by decide +kernel
theorem dX7_hands_23 : decode cX7_hands 23 = .ok (.istore_n 3, 1) := by decide +kernel
theorem dX7_hands_24 : decode cX7_hands 24 = .ok (.iconst 0, 1) := by decide +kernel
theorem dX7_hands_25 : decode cX7_hands 25 = .ok (.istore 4, 2) := by decide +kernel
theorem dX7_hands_27 : decode cX7_hands 27 = .ok (.iload 4, 2) := by decide +kernel
theorem dX7_hands_29 : decode cX7_hands 29 = .ok (.sipush 256, 3) := by decide +kernel
theorem dX7_hands_32 : decode cX7_hands 32 = .ok (.if_icmp .ge 34, 3) := by decide +kernel
theorem dX7_hands_35 : decode cX7_hands 35 = .ok (.iload 4, 2) := by decide +kernel
theorem dX7_hands_37 : decode cX7_hands 37 = .ok (.invokestatic 268, 3) := by decide +kernel
theorem dX7_hands_40 : decode cX7_hands 40 = .ok (.iload_n 3, 1) := by decide +kernel
theorem dX7_hands_41 : decode cX7_hands 41 = .ok (.invokestatic 268, 3) := by decide +kernel
theorem dX7_hands_44 : decode cX7_hands 44 = .ok (.if_icmp .ge 16, 3) := by decide +kernel
theorem dX7_hands_47 : decode cX7_hands 47 = .ok (.aload_n 0, 1) := by decide +kernel
theorem dX7_hands_48 : decode cX7_hands 48 = .ok (.iload 4, 2) := by decide +kernel
theorem dX7_hands_50 : decode cX7_hands 50 = .ok (.iload_n 2, 1) := by decide +kernel
theorem dX7_hands_51 : decode cX7_hands 51 = .ok (.invokevirtual 273, 3) := by decide +kernel
theorem dX7_hands_54 : decode cX7_hands 54 = .ok (.ifCond .eq 6, 3) := by decide +kernel
theorem dX7_hands_57 : decode cX7_hands 57 = .ok (.iload 4, 2) := by decide +kernel
theorem dX7_hands_59 : decode cX7_hands 59 = .ok (.istore_n 3, 1) := by decide +kernel
theorem dX7_hands_60 : decode cX7_hands 60 = .ok (.iinc 4 1, 3) := by decide +kernel
theorem dX7_hands_63 : decode cX7_hands 63 = .ok (.goto (-36), 3) := by decide +kernel
theorem dX7_hands_66 : decode cX7_hands 66 = .ok (.iload_n 3, 1) := by decide +kernel
theorem dX7_hands_67 : decode cX7_hands 67 = .ok (.ireturn, 1) := by decide +kernel
theorem dX7_saw_0 : decode cX7_saw 0 = .ok (.iload_n 1, 1) := by decide +kernel
theorem dX7_saw_1 : decode cX7_saw 1 = .ok (.iconst 0, 1) := by decide +kernel
theorem dX7_saw_2 : decode cX7_saw 2 = .ok (.bipush 7, 2) := by decide +kernel
theorem dX7_saw_4 : decode cX7_saw 4 = .ok (.invokestatic 57, 3) := by decide +kernel
theorem dX7_saw_7 : decode cX7_saw 7 = .ok (.ifCond .ne 14, 3) := by decide +kernel
theorem dX7_saw_10 : decode cX7_saw 10 = .ok (.iload_n 2, 1) := by decide +kernel
theorem dX7_saw_11 : decode cX7_saw 11 = .ok (.iconst 0, 1) := by decide +kernel
theorem dX7_saw_12 : decode cX7_saw 12 = .ok (.sipush 999, 3) := by decide +kernel
theorem dX7_saw_15 : decode cX7_saw 15 = .ok (.invokestatic 57, 3) := by decide +kernel
theorem dX7_saw_18 : decode cX7_saw 18 = .ok (.ifCond .eq 10, 3) := by decide +kernel
theorem dX7_saw_21 : decode cX7_saw 21 = .ok (.aload_n 0, 1) := by decide +kernel
theorem dX7_saw_22 : decode cX7_saw 22 = .ok (.ldc 67, 2) := by decide +kernel
theorem dX7_saw_24 : decode cX7_saw 24 = .ok (.invokevirtual 68, 3) := by decide +kernel
theorem dX7_saw_27 : decode cX7_saw 27 = .ok (.ireturn, 1) := by decide +kernel
theorem dX7_saw_28 : decode cX7_saw 28 = .ok (.iconst 0, 1) := by decide +kernel
theorem dX7_saw_29 : decode cX7_saw 29 = .ok (.istore_n 3, 1) := by decide +kernel
theorem dX7_saw_30 : decode cX7_saw 30 = .ok (.iconst 0, 1) := by decide +kernel
theorem dX7_saw_31 : decode cX7_saw 31 = .ok (.istore 4, 2) := by decide +kernel
theorem dX7_saw_33 : decode cX7_saw 33 = .ok (.iload 4, 2) := by decide +kernel
theorem dX7_saw_35 : decode cX7_saw 35 = .ok (.aload_n 0, 1) := by decide +kernel
theorem dX7_saw_36 : decode cX7_saw 36 = .ok (.getfield 12, 3) := by decide +kernel
theorem dX7_saw_39 : decode cX7_saw 39 = .ok (.getfield 89, 3) := by decide +kernel
theorem dX7_saw_42 : decode cX7_saw 42 = .ok (.getfield 229, 3) := by decide +kernel
theorem dX7_saw_45 : decode cX7_saw 45 = .ok (.if_icmp .ge 54, 3) := by decide +kernel
theorem dX7_saw_48 : decode cX7_saw 48 = .ok (.aload_n 0, 1) := by decide +kernel
theorem dX7_saw_49 : decode cX7_saw 49 = .ok (.getfield 12, 3) := by decide +kernel
theorem dX7_saw_52 : decode cX7_saw 52 = .ok (.getfield 89, 3) := by decide +kernel
theorem dX7_saw_55 : decode cX7_saw 55 = .ok (.iload 4, 2) := by decide +kernel
theorem dX7_saw_57 : decode cX7_saw 57 = .ok (.iconst 0, 1) := by decide +kernel
theorem dX7_saw_58 : decode cX7_saw 58 = .ok (.invokevirtual 76, 3) := by decide +kernel
theorem dX7_saw_61 : decode cX7_saw 61 = .ok (.iload_n 2, 1) := by decide +kernel
theorem dX7_saw_62 : decode cX7_saw 62 = .ok (.if_icmp .gt 31, 3) := by decide +kernel
theorem dX7_saw_65 : decode cX7_saw 65 = .ok (.aload_n 0, 1) := by decide +kernel
theorem dX7_saw_66 : decode cX7_saw 66 = .ok (.getfield 12, 3) := by decide +kernel
theorem dX7_saw_69 : decode cX7_saw 69 = .ok (.getfield 89, 3) := by decide +kernel
theorem dX7_saw_72 : decode cX7_saw 72 = .ok (.iload 4, 2) := by decide +kernel
theorem dX7_saw_74 : decode cX7_saw 74 = .ok (.iconst 1, 1) := by decide +kernel
theorem dX7_saw_75 : decode cX7_saw 75 = .ok (.invokevirtual 76, 3) := by decide +kernel
theorem dX7_saw_78 : decode cX7_saw 78 = .ok (.iload_n 1, 1) := by decide +kernel
theorem dX7_saw_79 : decode cX7_saw 79 = .ok (.ishr, 1) := by decide +kernel
theorem dX7_saw_80 : decode cX7_saw 80 = .ok (.iconst 1, 1) := by decide +kernel
theorem dX7_saw_81 : decode cX7_saw 81 = .ok (.iand, 1) := by decide +kernel
theorem dX7_saw_82 : decode cX7_saw 82 = .ok (.iconst 1, 1) := by decide +kernel
theorem dX7_saw_83 : decode cX7_saw 83 = .ok (.if_icmp .ne 10, 3) := by decide +kernel
theorem dX7_saw_86 : decode cX7_saw 86 = .ok (.iload_n 3, 1) := by decide +kernel
theorem dX7_saw_87 : decode cX7_saw 87 = .ok (.iconst 1, 1) := by decide +kernel
theorem dX7_saw_88 : decode cX7_saw 88 = .ok (.iload 4, 2) := by decide +kernel
theorem dX7_saw_90 : decode cX7_saw 90 = .ok (.ishl, 1) := by decide +kernel
theorem dX7_saw_91 : decode cX7_saw 91 = .ok (.ior, 1) := by decide +kernel
theorem dX7_saw_92 : decode cX7_saw 92 = .ok (.istore_n 3, 1) := by decide +kernel
theorem dX7_saw_93 : decode cX7_saw 93 = .ok (.iinc 4 1, 3) := by decide +kernel
theorem dX7_saw_96 : decode cX7_saw 96 = .ok (.goto (-63), 3) := by decide +kernel
theorem dX7_saw_99 : decode cX7_saw 99 = .ok (.iload_n 3, 1) := by decide +kernel
theorem dX7_saw_100 : decode cX7_saw 100 = .ok (.ireturn, 1) := by decide +kernel
theorem dX7_rests_0 : decode cX7_rests 0 = .ok (.aload_n 0, 1) := by decide +kernel
theorem dX7_rests_1 : decode cX7_rests 1 = .ok (.getfield 12, 3) := by decide +kernel
theorem dX7_rests_4 : decode cX7_rests 4 = .ok (.getfield 89, 3) := by decide +kernel
theorem dX7_rests_7 : decode cX7_rests 7 = .ok (.iload_n 1, 1) := by decide +kernel
theorem dX7_rests_8 : decode cX7_rests 8 = .ok (.invokevirtual 101, 3) := by decide +kernel
theorem dX7_rests_11 : decode cX7_rests 11 = .ok (.ifCond .eq 17, 3) := by decide +kernel
theorem dX7_rests_14 : decode cX7_rests 14 = .ok (.aload_n 0, 1) := by decide +kernel
theorem dX7_rests_15 : decode cX7_rests 15 = .ok (.getfield 12, 3) := by decide +kernel
theorem dX7_rests_18 : decode cX7_rests 18 = .ok (.getfield 89, 3) := by decide +kernel
theorem dX7_rests_21 : decode cX7_rests 21 = .ok (.iload_n 2, 1) := by decide +kernel
theorem dX7_rests_22 : decode cX7_rests 22 = .ok (.invokevirtual 101, 3) := by decide +kernel
theorem dX7_rests_25 : decode cX7_rests 25 = .ok (.ifCond .ne 10, 3) := by decide +kernel
theorem dX7_rests_28 : decode cX7_rests 28 = .ok (.aload_n 0, 1) := by decide +kernel
theorem dX7_rests_29 : decode cX7_rests 29 = .ok (.ldc 67, 2) := by decide +kernel
theorem dX7_rests_31 : decode cX7_rests 31 = .ok (.invokevirtual 68, 3) := by decide +kernel
theorem dX7_rests_34 : decode cX7_rests 34 = .ok (.ireturn, 1) := by decide +kernel
theorem dX7_rests_35 : decode cX7_rests 35 = .ok (.iload_n 2, 1) := by decide +kernel
theorem dX7_rests_36 : decode cX7_rests 36 = .ok (.iload_n 1, 1) := by decide +kernel
theorem dX7_rests_37 : decode cX7_rests 37 = .ok (.if_icmp .lt 11, 3) := by decide +kernel
theorem dX7_rests_40 : decode cX7_rests 40 = .ok (.aload_n 0, 1) := by decide +kernel
theorem dX7_rests_41 : decode cX7_rests 41 = .ok (.ldc_w 276, 3) := by decide +kernel
theorem dX7_rests_44 : decode cX7_rests 44 = .ok (.invokevirtual 68, 3) := by decide +kernel
theorem dX7_rests_47 : decode cX7_rests 47 = .ok (.ireturn, 1) := by decide +kernel
theorem dX7_rests_48 : decode cX7_rests 48 = .ok (.aload_n 0, 1) := by decide +kernel
theorem dX7_rests_49 : decode cX7_rests 49 = .ok (.getfield 12, 3) := by decide +kernel
theorem dX7_rests_52 : decode cX7_rests 52 = .ok (.getfield 89, 3) := by decide +kernel
theorem dX7_rests_55 : decode cX7_rests 55 = .ok (.iload_n 1, 1) := by decide +kernel
theorem dX7_rests_56 : decode cX7_rests 56 = .ok (.iconst 4, 1) := by decide +kernel
theorem dX7_rests_57 : decode cX7_rests 57 = .ok (.invokevirtual 76, 3) := by decide +kernel
theorem dX7_rests_60 : decode cX7_rests 60 = .ok (.istore_n 3, 1) := by decide +kernel
theorem dX7_rests_61 : decode cX7_rests 61 = .ok (.aload_n 0, 1) := by decide +kernel
theorem dX7_rests_62 : decode cX7_rests 62 = .ok (.getfield 12, 3) := by decide +kernel
theorem dX7_rests_65 : decode cX7_rests 65 = .ok (.getfield 89, 3) := by decide +kernel
theorem dX7_rests_68 : decode cX7_rests 68 = .ok (.iload_n 1, 1) := by decide +kernel
theorem dX7_rests_69 : decode cX7_rests 69 = .ok (.iconst 4, 1) := by decide +kernel
theorem dX7_rests_70 : decode cX7_rests 70 = .ok (.iload_n 3, 1) := by decide +kernel
theorem dX7_rests_71 : decode cX7_rests 71 = .ok (.iconst 1, 1) := by decide +kernel
theorem dX7_rests_72 : decode cX7_rests 72 = .ok (.iload_n 2, 1) := by decide +kernel
theorem dX7_rests_73 : decode cX7_rests 73 = .ok (.ishl, 1) := by decide +kernel
theorem dX7_rests_74 : decode cX7_rests 74 = .ok (.ior, 1) := by decide +kernel
theorem dX7_rests_75 : decode cX7_rests 75 = .ok (.invokevirtual 82, 3) := by decide +kernel
theorem dX7_rests_78 : decode cX7_rests 78 = .ok (.iload_n 3, 1) := by decide +kernel
theorem dX7_rests_79 : decode cX7_rests 79 = .ok (.iload_n 2, 1) := by decide +kernel
theorem dX7_rests_80 : decode cX7_rests 80 = .ok (.ishr, 1) := by decide +kernel
theorem dX7_rests_81 : decode cX7_rests 81 = .ok (.iconst 1, 1) := by decide +kernel
theorem dX7_rests_82 : decode cX7_rests 82 = .ok (.iand, 1) := by decide +kernel
theorem dX7_rests_83 : decode cX7_rests 83 = .ok (.ifCond .ne 7, 3) := by decide +kernel
theorem dX7_rests_86 : decode cX7_rests 86 = .ok (.iconst 1, 1) := by decide +kernel
theorem dX7_rests_87 : decode cX7_rests 87 = .ok (.goto 4, 3) := by decide +kernel
theorem dX7_rests_90 : decode cX7_rests 90 = .ok (.iconst 0, 1) := by decide +kernel
theorem dX7_rests_91 : decode cX7_rests 91 = .ok (.ireturn, 1) := by decide +kernel
theorem dX7_needs_0 : decode cX7_needs 0 = .ok (.aload_n 0, 1) := by decide +kernel
theorem dX7_needs_1 : decode cX7_needs 1 = .ok (.getfield 12, 3) := by decide +kernel
theorem dX7_needs_4 : decode cX7_needs 4 = .ok (.getfield 89, 3) := by decide +kernel
theorem dX7_needs_7 : decode cX7_needs 7 = .ok (.iload_n 1, 1) := by decide +kernel
theorem dX7_needs_8 : decode cX7_needs 8 = .ok (.invokevirtual 101, 3) := by decide +kernel
theorem dX7_needs_11 : decode cX7_needs 11 = .ok (.ifCond .eq 13, 3) := by decide +kernel
theorem dX7_needs_14 : decode cX7_needs 14 = .ok (.iload_n 2, 1) := by decide +kernel
theorem dX7_needs_15 : decode cX7_needs 15 = .ok (.iconst 0, 1) := by decide +kernel
theorem dX7_needs_16 : decode cX7_needs 16 = .ok (.bipush 11, 2) := by decide +kernel
theorem dX7_needs_18 : decode cX7_needs 18 = .ok (.invokestatic 57, 3) := by decide +kernel
theorem dX7_needs_21 : decode cX7_needs 21 = .ok (.ifCond .eq 10, 3) := by decide +kernel
theorem dX7_needs_24 : decode cX7_needs 24 = .ok (.aload_n 0, 1) := by decide +kernel
theorem dX7_needs_25 : decode cX7_needs 25 = .ok (.ldc 67, 2) := by decide +kernel
theorem dX7_needs_27 : decode cX7_needs 27 = .ok (.invokevirtual 68, 3) := by decide +kernel
theorem dX7_needs_30 : decode cX7_needs 30 = .ok (.ireturn, 1) := by decide +kernel
theorem dX7_needs_31 : decode cX7_needs 31 = .ok (.aload_n 0, 1) := by decide +kernel
theorem dX7_needs_32 : decode cX7_needs 32 = .ok (.getfield 12, 3) := by decide +kernel
theorem dX7_needs_35 : decode cX7_needs 35 = .ok (.getfield 89, 3) := by decide +kernel
theorem dX7_needs_38 : decode cX7_needs 38 = .ok (.iload_n 1, 1) := by decide +kernel
theorem dX7_needs_39 : decode cX7_needs 39 = .ok (.iconst 3, 1) := by decide +kernel
theorem dX7_needs_40 : decode cX7_needs 40 = .ok (.invokevirtual 76, 3) := by decide +kernel
theorem dX7_needs_43 : decode cX7_needs 43 = .ok (.istore_n 3, 1) := by decide +kernel
theorem dX7_needs_44 : decode cX7_needs 44 = .ok (.aload_n 0, 1) := by decide +kernel
theorem dX7_needs_45 : decode cX7_needs 45 = .ok (.getfield 12, 3) := by decide +kernel
theorem dX7_needs_48 : decode cX7_needs 48 = .ok (.getfield 89, 3) := by decide +kernel
theorem dX7_needs_51 : decode cX7_needs 51 = .ok (.iload_n 1, 1) := by decide +kernel
theorem dX7_needs_52 : decode cX7_needs 52 = .ok (.iconst 3, 1) := by decide +kernel
theorem dX7_needs_53 : decode cX7_needs 53 = .ok (.iload_n 2, 1) := by decide +kernel
theorem dX7_needs_54 : decode cX7_needs 54 = .ok (.invokevirtual 82, 3) := by decide +kernel
theorem dX7_needs_57 : decode cX7_needs 57 = .ok (.iload_n 3, 1) := by decide +kernel
theorem dX7_needs_58 : decode cX7_needs 58 = .ok (.ireturn, 1) := by decide +kernel
theorem dX7_fall_0 : decode cX7_fall 0 = .ok (.iload_n 1, 1) := by decide +kernel
theorem dX7_fall_1 : decode cX7_fall 1 = .ok (.aload_n 0, 1) := by decide +kernel
theorem dX7_fall_2 : decode cX7_fall 2 = .ok (.getfield 12, 3) := by decide +kernel
theorem dX7_fall_5 : decode cX7_fall 5 = .ok (.getfield 89, 3) := by decide +kernel
theorem dX7_fall_8 : decode cX7_fall 8 = .ok (.getfield 229, 3) := by decide +kernel
theorem dX7_fall_11 : decode cX7_fall 11 = .ok (.invokestatic 277, 3) := by decide +kernel
theorem dX7_fall_14 : decode cX7_fall 14 = .ok (.ifCond .ne 10, 3) := by decide +kernel
theorem dX7_fall_17 : decode cX7_fall 17 = .ok (.aload_n 0, 1) := by decide +kernel
theorem dX7_fall_18 : decode cX7_fall 18 = .ok (.ldc 67, 2) := by decide +kernel
theorem dX7_fall_20 : decode cX7_fall 20 = .ok (.invokevirtual 68, 3) := by decide +kernel
theorem dX7_fall_23 : decode cX7_fall 23 = .ok (.ireturn, 1) := by decide +kernel
theorem dX7_fall_24 : decode cX7_fall 24 = .ok (.iconst 0, 1) := by decide +kernel
theorem dX7_fall_25 : decode cX7_fall 25 = .ok (.istore_n 2, 1) := by decide +kernel
theorem dX7_fall_26 : decode cX7_fall 26 = .ok (.iconst 0, 1) := by decide +kernel
theorem dX7_fall_27 : decode cX7_fall 27 = .ok (.istore_n 3, 1) := by decide +kernel
theorem dX7_fall_28 : decode cX7_fall 28 = .ok (.iload_n 3, 1) := by decide +kernel
theorem dX7_fall_29 : decode cX7_fall 29 = .ok (.aload_n 0, 1) := by decide +kernel
theorem dX7_fall_30 : decode cX7_fall 30 = .ok (.getfield 12, 3) := by decide +kernel
theorem dX7_fall_33 : decode cX7_fall 33 = .ok (.getfield 89, 3) := by decide +kernel
theorem dX7_fall_36 : decode cX7_fall 36 = .ok (.getfield 229, 3) := by decide +kernel
theorem dX7_fall_39 : decode cX7_fall 39 = .ok (.if_icmp .ge 59, 3) := by decide +kernel
theorem dX7_fall_42 : decode cX7_fall 42 = .ok (.aload_n 0, 1) := by decide +kernel
theorem dX7_fall_43 : decode cX7_fall 43 = .ok (.getfield 12, 3) := by decide +kernel
theorem dX7_fall_46 : decode cX7_fall 46 = .ok (.getfield 89, 3) := by decide +kernel
theorem dX7_fall_49 : decode cX7_fall 49 = .ok (.iload_n 3, 1) := by decide +kernel
theorem dX7_fall_50 : decode cX7_fall 50 = .ok (.iconst 4, 1) := by decide +kernel
theorem dX7_fall_51 : decode cX7_fall 51 = .ok (.invokevirtual 76, 3) := by decide +kernel
theorem dX7_fall_54 : decode cX7_fall 54 = .ok (.iload_n 2, 1) := by decide +kernel
theorem dX7_fall_55 : decode cX7_fall 55 = .ok (.iand, 1) := by decide +kernel
theorem dX7_fall_56 : decode cX7_fall 56 = .ok (.invokestatic 268, 3) := by decide +kernel
theorem dX7_fall_59 : decode cX7_fall 59 = .ok (.istore 4, 2) := by decide +kernel
theorem dX7_fall_61 : decode cX7_fall 61 = .ok (.iload_n 1, 1) := by decide +kernel
theorem dX7_fall_62 : decode cX7_fall 62 = .ok (.iload_n 3, 1) := by decide +kernel
theorem dX7_fall_63 : decode cX7_fall 63 = .ok (.ishr, 1) := by decide +kernel
theorem dX7_fall_64 : decode cX7_fall 64 = .ok (.iconst 1, 1) := by decide +kernel
theorem dX7_fall_65 : decode cX7_fall 65 = .ok (.iand, 1) := by decide +kernel
theorem dX7_fall_66 : decode cX7_fall 66 = .ok (.ifCond .ne 26, 3) := by decide +kernel
theorem dX7_fall_69 : decode cX7_fall 69 = .ok (.iload 4, 2) := by decide +kernel
theorem dX7_fall_71 : decode cX7_fall 71 = .ok (.aload_n 0, 1) := by decide +kernel
theorem dX7_fall_72 : decode cX7_fall 72 = .ok (.getfield 12, 3) := by decide +kernel
theorem dX7_fall_75 : decode cX7_fall 75 = .ok (.getfield 89, 3) := by decide +kernel
theorem dX7_fall_78 : decode cX7_fall 78 = .ok (.iload_n 3, 1) := by decide +kernel
theorem dX7_fall_79 : decode cX7_fall 79 = .ok (.iconst 3, 1) := by decide +kernel
theorem dX7_fall_80 : decode cX7_fall 80 = .ok (.invokevirtual 76, 3) := by decide +kernel
theorem dX7_fall_83 : decode cX7_fall 83 = .ok (.if_icmp .lt 9, 3) := by decide +kernel
theorem dX7_fall_86 : decode cX7_fall 86 = .ok (.iload_n 2, 1) := by decide +kernel
theorem dX7_fall_87 : decode cX7_fall 87 = .ok (.iconst 1, 1) := by decide +kernel
theorem dX7_fall_88 : decode cX7_fall 88 = .ok (.iload_n 3, 1) := by decide +kernel
theorem dX7_fall_89 : decode cX7_fall 89 = .ok (.ishl, 1) := by decide +kernel
theorem dX7_fall_90 : decode cX7_fall 90 = .ok (.ior, 1) := by decide +kernel
theorem dX7_fall_91 : decode cX7_fall 91 = .ok (.istore_n 2, 1) := by decide +kernel
theorem dX7_fall_92 : decode cX7_fall 92 = .ok (.iinc 3 1, 3) := by decide +kernel
theorem dX7_fall_95 : decode cX7_fall 95 = .ok (.goto (-67), 3) := by decide +kernel
theorem dX7_fall_98 : decode cX7_fall 98 = .ok (.iload_n 2, 1) := by decide +kernel
theorem dX7_fall_99 : decode cX7_fall 99 = .ok (.iconst (-1), 1) := by decide +kernel
theorem dX7_fall_100 : decode cX7_fall 100 = .ok (.ixor, 1) := by decide +kernel
theorem dX7_fall_101 : decode cX7_fall 101 = .ok (.iconst 1, 1) := by decide +kernel
theorem dX7_fall_102 : decode cX7_fall 102 = .ok (.aload_n 0, 1) := by decide +kernel
theorem dX7_fall_103 : decode cX7_fall 103 = .ok (.getfield 12, 3) := by decide +kernel
theorem dX7_fall_106 : decode cX7_fall 106 = .ok (.getfield 89, 3) := by decide +kernel
theorem dX7_fall_109 : decode cX7_fall 109 = .ok (.getfield 229, 3) := by decide +kernel
theorem dX7_fall_112 : decode cX7_fall 112 = .ok (.ishl, 1) := by decide +kernel
theorem dX7_fall_113 : decode cX7_fall 113 = .ok (.iconst 1, 1) := by decide +kernel
theorem dX7_fall_114 : decode cX7_fall 114 = .ok (.isub, 1) := by decide +kernel
theorem dX7_fall_115 : decode cX7_fall 115 = .ok (.iand, 1) := by decide +kernel
theorem dX7_fall_116 : decode cX7_fall 116 = .ok (.ireturn, 1) := by decide +kernel
theorem dX7_link_0 : decode cX7_link 0 = .ok (.iload_n 1, 1) := by decide +kernel
theorem dX7_link_1 : decode cX7_link 1 = .ok (.invokestatic 280, 3) := by decide +kernel
theorem dX7_link_4 : decode cX7_link 4 = .ok (.ifCond .eq 25, 3) := by decide +kernel
theorem dX7_link_7 : decode cX7_link 7 = .ok (.iload_n 2, 1) := by decide +kernel
theorem dX7_link_8 : decode cX7_link 8 = .ok (.invokestatic 280, 3) := by decide +kernel
theorem dX7_link_11 : decode cX7_link 11 = .ok (.ifCond .eq 18, 3) := by decide +kernel
theorem dX7_link_14 : decode cX7_link 14 = .ok (.iload_n 1, 1) := by decide +kernel
theorem dX7_link_15 : decode cX7_link 15 = .ok (.iload_n 2, 1) := by decide +kernel
theorem dX7_link_16 : decode cX7_link 16 = .ok (.if_icmp .eq 13, 3) := by decide +kernel
theorem dX7_link_19 : decode cX7_link 19 = .ok (.iload_n 3, 1) := by decide +kernel
theorem dX7_link_20 : decode cX7_link 20 = .ok (.iconst 1, 1) := by decide +kernel
theorem dX7_link_21 : decode cX7_link 21 = .ok (.bipush 60, 2) := by decide +kernel
theorem dX7_link_23 : decode cX7_link 23 = .ok (.invokestatic 57, 3) := by decide +kernel
theorem dX7_link_26 : decode cX7_link 26 = .ok (.ifCond .eq 10, 3) := by decide +kernel
theorem dX7_link_29 : decode cX7_link 29 = .ok (.aload_n 0, 1) := by decide +kernel
theorem dX7_link_30 : decode cX7_link 30 = .ok (.ldc 67, 2) := by decide +kernel
theorem dX7_link_32 : decode cX7_link 32 = .ok (.invokevirtual 68, 3) := by decide +kernel
theorem dX7_link_35 : decode cX7_link 35 = .ok (.ireturn, 1) := by decide +kernel
theorem dX7_link_36 : decode cX7_link 36 = .ok (.aload_n 0, 1) := by decide +kernel
theorem dX7_link_37 : decode cX7_link 37 = .ok (.getfield 12, 3) := by decide +kernel
theorem dX7_link_40 : decode cX7_link 40 = .ok (.getfield 283, 3) := by decide +kernel
theorem dX7_link_43 : decode cX7_link 43 = .ok (.invokevirtual 92, 3) := by decide +kernel
theorem dX7_link_46 : decode cX7_link 46 = .ok (.ifCond .eq 10, 3) := by decide +kernel
theorem dX7_link_49 : decode cX7_link 49 = .ok (.aload_n 0, 1) := by decide +kernel
theorem dX7_link_50 : decode cX7_link 50 = .ok (.ldc 96, 2) := by decide +kernel
theorem dX7_link_52 : decode cX7_link 52 = .ok (.invokevirtual 68, 3) := by decide +kernel
theorem dX7_link_55 : decode cX7_link 55 = .ok (.ireturn, 1) := by decide +kernel
theorem dX7_link_56 : decode cX7_link 56 = .ok (.aload_n 0, 1) := by decide +kernel
theorem dX7_link_57 : decode cX7_link 57 = .ok (.getfield 12, 3) := by decide +kernel
theorem dX7_link_60 : decode cX7_link 60 = .ok (.getfield 283, 3) := by decide +kernel
theorem dX7_link_63 : decode cX7_link 63 = .ok (.invokevirtual 97, 3) := by decide +kernel
theorem dX7_link_66 : decode cX7_link 66 = .ok (.istore 4, 2) := by decide +kernel
theorem dX7_link_68 : decode cX7_link 68 = .ok (.aload_n 0, 1) := by decide +kernel
theorem dX7_link_69 : decode cX7_link 69 = .ok (.getfield 12, 3) := by decide +kernel
theorem dX7_link_72 : decode cX7_link 72 = .ok (.getfield 283, 3) := by decide +kernel
theorem dX7_link_75 : decode cX7_link 75 = .ok (.iload 4, 2) := by decide +kernel
theorem dX7_link_77 : decode cX7_link 77 = .ok (.iconst 0, 1) := by decide +kernel
theorem dX7_link_78 : decode cX7_link 78 = .ok (.iload_n 1, 1) := by decide +kernel
theorem dX7_link_79 : decode cX7_link 79 = .ok (.invokevirtual 82, 3) := by decide +kernel
theorem dX7_link_82 : decode cX7_link 82 = .ok (.aload_n 0, 1) := by decide +kernel
theorem dX7_link_83 : decode cX7_link 83 = .ok (.getfield 12, 3) := by decide +kernel
theorem dX7_link_86 : decode cX7_link 86 = .ok (.getfield 283, 3) := by decide +kernel
theorem dX7_link_89 : decode cX7_link 89 = .ok (.iload 4, 2) := by decide +kernel
theorem dX7_link_91 : decode cX7_link 91 = .ok (.iconst 1, 1) := by decide +kernel
theorem dX7_link_92 : decode cX7_link 92 = .ok (.iload_n 2, 1) := by decide +kernel
theorem dX7_link_93 : decode cX7_link 93 = .ok (.invokevirtual 82, 3) := by decide +kernel
theorem dX7_link_96 : decode cX7_link 96 = .ok (.aload_n 0, 1) := by decide +kernel
theorem dX7_link_97 : decode cX7_link 97 = .ok (.getfield 12, 3) := by decide +kernel
theorem dX7_link_100 : decode cX7_link 100 = .ok (.getfield 283, 3) := by decide +kernel
theorem dX7_link_103 : decode cX7_link 103 = .ok (.iload 4, 2) := by decide +kernel
theorem dX7_link_105 : decode cX7_link 105 = .ok (.iconst 2, 1) := by decide +kernel
theorem dX7_link_106 : decode cX7_link 106 = .ok (.iload_n 3, 1) := by decide +kernel
theorem dX7_link_107 : decode cX7_link 107 = .ok (.invokevirtual 82, 3) := by decide +kernel
theorem dX7_link_110 : decode cX7_link 110 = .ok (.aload_n 0, 1) := by decide +kernel
theorem dX7_link_111 : decode cX7_link 111 = .ok (.getfield 12, 3) := by decide +kernel
theorem dX7_link_114 : decode cX7_link 114 = .ok (.getfield 283, 3) := by decide +kernel
theorem dX7_link_117 : decode cX7_link 117 = .ok (.getfield 229, 3) := by decide +kernel
theorem dX7_link_120 : decode cX7_link 120 = .ok (.ireturn, 1) := by decide +kernel
theorem dX7_tries_0 : decode cX7_tries 0 = .ok (.iload_n 1, 1) := by decide +kernel
theorem dX7_tries_1 : decode cX7_tries 1 = .ok (.invokestatic 280, 3) := by decide +kernel
theorem dX7_tries_4 : decode cX7_tries 4 = .ok (.ifCond .eq 28, 3) := by decide +kernel
theorem dX7_tries_7 : decode cX7_tries 7 = .ok (.aload_n 0, 1) := by decide +kernel
theorem dX7_tries_8 : decode cX7_tries 8 = .ok (.getfield 12, 3) := by decide +kernel
theorem dX7_tries_11 : decode cX7_tries 11 = .ok (.getfield 89, 3) := by decide +kernel
theorem dX7_tries_14 : decode cX7_tries 14 = .ok (.iload_n 2, 1) := by decide +kernel
theorem dX7_tries_15 : decode cX7_tries 15 = .ok (.invokevirtual 101, 3) := by decide +kernel
theorem dX7_tries_18 : decode cX7_tries 18 = .ok (.ifCond .eq 14, 3) := by decide +kernel
theorem dX7_tries_21 : decode cX7_tries 21 = .ok (.iload_n 3, 1) := by decide +kernel
theorem dX7_tries_22 : decode cX7_tries 22 = .ok (.iconst 0, 1) := by decide +kernel
theorem dX7_tries_23 : decode cX7_tries 23 = .ok (.sipush 999, 3) := by decide +kernel
theorem dX7_tries_26 : decode cX7_tries 26 = .ok (.invokestatic 57, 3) := by decide +kernel
theorem dX7_tries_29 : decode cX7_tries 29 = .ok (.ifCond .eq 10, 3) := by decide +kernel
theorem dX7_tries_32 : decode cX7_tries 32 = .ok (.aload_n 0, 1) := by decide +kernel
theorem dX7_tries_33 : decode cX7_tries 33 = .ok (.ldc 67, 2) := by decide +kernel
theorem dX7_tries_35 : decode cX7_tries 35 = .ok (.invokevirtual 68, 3) := by decide +kernel
theorem dX7_tries_38 : decode cX7_tries 38 = .ok (.ireturn, 1) := by decide +kernel
theorem dX7_tries_39 : decode cX7_tries 39 = .ok (.aload_n 0, 1) := by decide +kernel
theorem dX7_tries_40 : decode cX7_tries 40 = .ok (.getfield 12, 3) := by decide +kernel
theorem dX7_tries_43 : decode cX7_tries 43 = .ok (.getfield 286, 3) := by decide +kernel
theorem dX7_tries_46 : decode cX7_tries 46 = .ok (.invokevirtual 92, 3) := by decide +kernel
theorem dX7_tries_49 : decode cX7_tries 49 = .ok (.ifCond .eq 10, 3) := by decide +kernel
theorem dX7_tries_52 : decode cX7_tries 52 = .ok (.aload_n 0, 1) := by decide +kernel
theorem dX7_tries_53 : decode cX7_tries 53 = .ok (.ldc 96, 2) := by decide +kernel
theorem dX7_tries_55 : decode cX7_tries 55 = .ok (.invokevirtual 68, 3) := by decide +kernel
theorem dX7_tries_58 : decode cX7_tries 58 = .ok (.ireturn, 1) := by decide +kernel
theorem dX7_tries_59 : decode cX7_tries 59 = .ok (.aload_n 0, 1) := by decide +kernel
theorem dX7_tries_60 : decode cX7_tries 60 = .ok (.getfield 12, 3) := by decide +kernel
theorem dX7_tries_63 : decode cX7_tries 63 = .ok (.getfield 286, 3) := by decide +kernel
theorem dX7_tries_66 : decode cX7_tries 66 = .ok (.invokevirtual 97, 3) := by decide +kernel
theorem dX7_tries_69 : decode cX7_tries 69 = .ok (.istore 5, 2) := by decide +kernel
theorem dX7_tries_71 : decode cX7_tries 71 = .ok (.aload_n 0, 1) := by decide +kernel
theorem dX7_tries_72 : decode cX7_tries 72 = .ok (.getfield 12, 3) := by decide +kernel
theorem dX7_tries_75 : decode cX7_tries 75 = .ok (.getfield 286, 3) := by decide +kernel
theorem dX7_tries_78 : decode cX7_tries 78 = .ok (.iload 5, 2) := by decide +kernel
theorem dX7_tries_80 : decode cX7_tries 80 = .ok (.iconst 0, 1) := by decide +kernel
theorem dX7_tries_81 : decode cX7_tries 81 = .ok (.iload_n 1, 1) := by decide +kernel
theorem dX7_tries_82 : decode cX7_tries 82 = .ok (.invokevirtual 82, 3) := by decide +kernel
theorem dX7_tries_85 : decode cX7_tries 85 = .ok (.aload_n 0, 1) := by decide +kernel
theorem dX7_tries_86 : decode cX7_tries 86 = .ok (.getfield 12, 3) := by decide +kernel
theorem dX7_tries_89 : decode cX7_tries 89 = .ok (.getfield 286, 3) := by decide +kernel
theorem dX7_tries_92 : decode cX7_tries 92 = .ok (.iload 5, 2) := by decide +kernel
theorem dX7_tries_94 : decode cX7_tries 94 = .ok (.iconst 1, 1) := by decide +kernel
theorem dX7_tries_95 : decode cX7_tries 95 = .ok (.iload_n 2, 1) := by decide +kernel
theorem dX7_tries_96 : decode cX7_tries 96 = .ok (.invokevirtual 82, 3) := by decide +kernel
theorem dX7_tries_99 : decode cX7_tries 99 = .ok (.aload_n 0, 1) := by decide +kernel
theorem dX7_tries_100 : decode cX7_tries 100 = .ok (.getfield 12, 3) := by decide +kernel
theorem dX7_tries_103 : decode cX7_tries 103 = .ok (.getfield 286, 3) := by decide +kernel
theorem dX7_tries_106 : decode cX7_tries 106 = .ok (.iload 5, 2) := by decide +kernel
theorem dX7_tries_108 : decode cX7_tries 108 = .ok (.iconst 2, 1) := by decide +kernel
theorem dX7_tries_109 : decode cX7_tries 109 = .ok (.iload_n 3, 1) := by decide +kernel
theorem dX7_tries_110 : decode cX7_tries 110 = .ok (.invokevirtual 82, 3) := by decide +kernel
theorem dX7_tries_113 : decode cX7_tries 113 = .ok (.aload_n 0, 1) := by decide +kernel
theorem dX7_tries_114 : decode cX7_tries 114 = .ok (.getfield 12, 3) := by decide +kernel
theorem dX7_tries_117 : decode cX7_tries 117 = .ok (.getfield 286, 3) := by decide +kernel
theorem dX7_tries_120 : decode cX7_tries 120 = .ok (.iload 5, 2) := by decide +kernel
theorem dX7_tries_122 : decode cX7_tries 122 = .ok (.iconst 3, 1) := by decide +kernel
theorem dX7_tries_123 : decode cX7_tries 123 = .ok (.iload 4, 2) := by decide +kernel
theorem dX7_tries_125 : decode cX7_tries 125 = .ok (.ifCond .eq 7, 3) := by decide +kernel
theorem dX7_tries_128 : decode cX7_tries 128 = .ok (.iconst 0, 1) := by decide +kernel
theorem dX7_tries_129 : decode cX7_tries 129 = .ok (.goto 4, 3) := by decide +kernel
theorem dX7_tries_132 : decode cX7_tries 132 = .ok (.iconst 1, 1) := by decide +kernel
theorem dX7_tries_133 : decode cX7_tries 133 = .ok (.invokevirtual 82, 3) := by decide +kernel
theorem dX7_tries_136 : decode cX7_tries 136 = .ok (.aload_n 0, 1) := by decide +kernel
theorem dX7_tries_137 : decode cX7_tries 137 = .ok (.getfield 12, 3) := by decide +kernel
theorem dX7_tries_140 : decode cX7_tries 140 = .ok (.getfield 286, 3) := by decide +kernel
theorem dX7_tries_143 : decode cX7_tries 143 = .ok (.getfield 229, 3) := by decide +kernel
theorem dX7_tries_146 : decode cX7_tries 146 = .ok (.ireturn, 1) := by decide +kernel
theorem dX7_knows_0 : decode cX7_knows 0 = .ok (.iload_n 1, 1) := by decide +kernel
theorem dX7_knows_1 : decode cX7_knows 1 = .ok (.invokestatic 280, 3) := by decide +kernel
theorem dX7_knows_4 : decode cX7_knows 4 = .ok (.ifCond .eq 27, 3) := by decide +kernel
theorem dX7_knows_7 : decode cX7_knows 7 = .ok (.aload_n 0, 1) := by decide +kernel
theorem dX7_knows_8 : decode cX7_knows 8 = .ok (.getfield 12, 3) := by decide +kernel
theorem dX7_knows_11 : decode cX7_knows 11 = .ok (.getfield 89, 3) := by decide +kernel
theorem dX7_knows_14 : decode cX7_knows 14 = .ok (.iload_n 2, 1) := by decide +kernel
theorem dX7_knows_15 : decode cX7_knows 15 = .ok (.invokevirtual 101, 3) := by decide +kernel
theorem dX7_knows_18 : decode cX7_knows 18 = .ok (.ifCond .eq 13, 3) := by decide +kernel
theorem dX7_knows_21 : decode cX7_knows 21 = .ok (.iload_n 3, 1) := by decide +kernel
theorem dX7_knows_22 : decode cX7_knows 22 = .ok (.iconst 1, 1) := by decide +kernel
theorem dX7_knows_23 : decode cX7_knows 23 = .ok (.bipush 30, 2) := by decide +kernel
theorem dX7_knows_25 : decode cX7_knows 25 = .ok (.invokestatic 57, 3) := by decide +kernel
theorem dX7_knows_28 : decode cX7_knows 28 = .ok (.ifCond .eq 10, 3) := by decide +kernel
theorem dX7_knows_31 : decode cX7_knows 31 = .ok (.aload_n 0, 1) := by decide +kernel
theorem dX7_knows_32 : decode cX7_knows 32 = .ok (.ldc 67, 2) := by decide +kernel
theorem dX7_knows_34 : decode cX7_knows 34 = .ok (.invokevirtual 68, 3) := by decide +kernel
theorem dX7_knows_37 : decode cX7_knows 37 = .ok (.ireturn, 1) := by decide +kernel
theorem dX7_knows_38 : decode cX7_knows 38 = .ok (.aload_n 0, 1) := by decide +kernel
theorem dX7_knows_39 : decode cX7_knows 39 = .ok (.iload_n 1, 1) := by decide +kernel
theorem dX7_knows_40 : decode cX7_knows 40 = .ok (.invokevirtual 289, 3) := by decide +kernel
theorem dX7_knows_43 : decode cX7_knows 43 = .ok (.iconst 0, 1) := by decide +kernel
theorem dX7_knows_44 : decode cX7_knows 44 = .ok (.istore 4, 2) := by decide +kernel
theorem dX7_knows_46 : decode cX7_knows 46 = .ok (.iconst 0, 1) := by decide +kernel
theorem dX7_knows_47 : decode cX7_knows 47 = .ok (.istore 5, 2) := by decide +kernel
theorem dX7_knows_49 : decode cX7_knows 49 = .ok (.iload 5, 2) := by decide +kernel
theorem dX7_knows_51 : decode cX7_knows 51 = .ok (.aload_n 0, 1) := by decide +kernel
theorem dX7_knows_52 : decode cX7_knows 52 = .ok (.getfield 12, 3) := by decide +kernel
theorem dX7_knows_55 : decode cX7_knows 55 = .ok (.getfield 286, 3) := by decide +kernel
theorem dX7_knows_58 : decode cX7_knows 58 = .ok (.getfield 229, 3) := by decide +kernel
theorem dX7_knows_61 : decode cX7_knows 61 = .ok (.if_icmp .ge 71, 3) := by decide +kernel
theorem dX7_knows_64 : decode cX7_knows 64 = .ok (.aload_n 0, 1) := by decide +kernel
theorem dX7_knows_65 : decode cX7_knows 65 = .ok (.getfield 12, 3) := by decide +kernel
theorem dX7_knows_68 : decode cX7_knows 68 = .ok (.getfield 286, 3) := by decide +kernel
theorem dX7_knows_71 : decode cX7_knows 71 = .ok (.iload 5, 2) := by decide +kernel
theorem dX7_knows_73 : decode cX7_knows 73 = .ok (.iconst 3, 1) := by decide +kernel
theorem dX7_knows_74 : decode cX7_knows 74 = .ok (.invokevirtual 76, 3) := by decide +kernel
theorem dX7_knows_77 : decode cX7_knows 77 = .ok (.iconst 1, 1) := by decide +kernel
theorem dX7_knows_78 : decode cX7_knows 78 = .ok (.if_icmp .ne 48, 3) := by decide +kernel
theorem dX7_knows_81 : decode cX7_knows 81 = .ok (.aload_n 0, 1) := by decide +kernel
theorem dX7_knows_82 : decode cX7_knows 82 = .ok (.getfield 12, 3) := by decide +kernel
theorem dX7_knows_85 : decode cX7_knows 85 = .ok (.getfield 286, 3) := by decide +kernel
theorem dX7_knows_88 : decode cX7_knows 88 = .ok (.iload 5, 2) := by decide +kernel
theorem dX7_knows_90 : decode cX7_knows 90 = .ok (.iconst 1, 1) := by decide +kernel
theorem dX7_knows_91 : decode cX7_knows 91 = .ok (.invokevirtual 76, 3) := by decide +kernel
theorem dX7_knows_94 : decode cX7_knows 94 = .ok (.iload_n 2, 1) := by decide +kernel
theorem dX7_knows_95 : decode cX7_knows 95 = .ok (.if_icmp .ne 31, 3) := by decide +kernel
theorem dX7_knows_98 : decode cX7_knows 98 = .ok (.aload_n 0, 1) := by decide +kernel
theorem dX7_knows_99 : decode cX7_knows 99 = .ok (.iload 5, 2) := by decide +kernel
theorem dX7_knows_101 : decode cX7_knows 101 = .ok (.iload_n 1, 1) := by decide +kernel
theorem dX7_knows_102 : decode cX7_knows 102 = .ok (.invokevirtual 293, 3) := by decide +kernel
theorem dX7_knows_105 : decode cX7_knows 105 = .ok (.istore 6, 2) := by decide +kernel
theorem dX7_knows_107 : decode cX7_knows 107 = .ok (.iload 6, 2) := by decide +kernel
theorem dX7_knows_109 : decode cX7_knows 109 = .ok (.ldc_w 296, 3) := by decide +kernel
theorem dX7_knows_112 : decode cX7_knows 112 = .ok (.if_icmp .ge 14, 3) := by decide +kernel
theorem dX7_knows_115 : decode cX7_knows 115 = .ok (.aload_n 0, 1) := by decide +kernel
theorem dX7_knows_116 : decode cX7_knows 116 = .ok (.iload 6, 2) := by decide +kernel
theorem dX7_knows_118 : decode cX7_knows 118 = .ok (.iload 4, 2) := by decide +kernel
theorem dX7_knows_120 : decode cX7_knows 120 = .ok (.invokevirtual 297, 3) := by decide +kernel
theorem dX7_knows_123 : decode cX7_knows 123 = .ok (.iinc 4 1, 3) := by decide +kernel
theorem dX7_knows_126 : decode cX7_knows 126 = .ok (.iinc 5 1, 3) := by decide +kernel
theorem dX7_knows_129 : decode cX7_knows 129 = .ok (.goto (-80), 3) := by decide +kernel
theorem dX7_knows_132 : decode cX7_knows 132 = .ok (.iload 4, 2) := by decide +kernel
theorem dX7_knows_134 : decode cX7_knows 134 = .ok (.iload_n 3, 1) := by decide +kernel
theorem dX7_knows_135 : decode cX7_knows 135 = .ok (.if_icmp .ge 12, 3) := by decide +kernel
theorem dX7_knows_138 : decode cX7_knows 138 = .ok (.aload_n 0, 1) := by decide +kernel
theorem dX7_knows_139 : decode cX7_knows 139 = .ok (.ldc 117, 2) := by decide +kernel
theorem dX7_knows_141 : decode cX7_knows 141 = .ok (.invokevirtual 68, 3) := by decide +kernel
theorem dX7_knows_144 : decode cX7_knows 144 = .ok (.goto 11, 3) := by decide +kernel
theorem dX7_knows_147 : decode cX7_knows 147 = .ok (.aload_n 0, 1) := by decide +kernel
theorem dX7_knows_148 : decode cX7_knows 148 = .ok (.getfield 46, 3) := by decide +kernel
theorem dX7_knows_151 : decode cX7_knows 151 = .ok (.iload_n 3, 1) := by decide +kernel
theorem dX7_knows_152 : decode cX7_knows 152 = .ok (.iconst 1, 1) := by decide +kernel
theorem dX7_knows_153 : decode cX7_knows 153 = .ok (.isub, 1) := by decide +kernel
theorem dX7_knows_154 : decode cX7_knows 154 = .ok (.iaload, 1) := by decide +kernel
theorem dX7_knows_155 : decode cX7_knows 155 = .ok (.ireturn, 1) := by decide +kernel
theorem dX7_rule_0 : decode cX7_rule 0 = .ok (.iload_n 1, 1) := by decide +kernel
theorem dX7_rule_1 : decode cX7_rule 1 = .ok (.iconst 1, 1) := by decide +kernel
theorem dX7_rule_2 : decode cX7_rule 2 = .ok (.bipush 99, 2) := by decide +kernel
theorem dX7_rule_4 : decode cX7_rule 4 = .ok (.invokestatic 57, 3) := by decide +kernel
theorem dX7_rule_7 : decode cX7_rule 7 = .ok (.ifCond .ne 20, 3) := by decide +kernel
theorem dX7_rule_10 : decode cX7_rule 10 = .ok (.iload_n 2, 1) := by decide +kernel
theorem dX7_rule_11 : decode cX7_rule 11 = .ok (.aload_n 0, 1) := by decide +kernel
theorem dX7_rule_12 : decode cX7_rule 12 = .ok (.getfield 12, 3) := by decide +kernel
theorem dX7_rule_15 : decode cX7_rule 15 = .ok (.getfield 126, 3) := by decide +kernel
theorem dX7_rule_18 : decode cX7_rule 18 = .ok (.getfield 229, 3) := by decide +kernel
theorem dX7_rule_21 : decode cX7_rule 21 = .ok (.invokestatic 277, 3) := by decide +kernel
theorem dX7_rule_24 : decode cX7_rule 24 = .ok (.ifCond .ne 10, 3) := by decide +kernel
theorem dX7_rule_27 : decode cX7_rule 27 = .ok (.aload_n 0, 1) := by decide +kernel
theorem dX7_rule_28 : decode cX7_rule 28 = .ok (.ldc 67, 2) := by decide +kernel
theorem dX7_rule_30 : decode cX7_rule 30 = .ok (.invokevirtual 68, 3) := by decide +kernel
theorem dX7_rule_33 : decode cX7_rule 33 = .ok (.ireturn, 1) := by decide +kernel
theorem dX7_rule_34 : decode cX7_rule 34 = .ok (.aload_n 0, 1) := by decide +kernel
theorem dX7_rule_35 : decode cX7_rule 35 = .ok (.getfield 12, 3) := by decide +kernel
theorem dX7_rule_38 : decode cX7_rule 38 = .ok (.getfield 301, 3) := by decide +kernel
theorem dX7_rule_41 : decode cX7_rule 41 = .ok (.invokevirtual 92, 3) := by decide +kernel
theorem dX7_rule_44 : decode cX7_rule 44 = .ok (.ifCond .eq 10, 3) := by decide +kernel
theorem dX7_rule_47 : decode cX7_rule 47 = .ok (.aload_n 0, 1) := by decide +kernel
theorem dX7_rule_48 : decode cX7_rule 48 = .ok (.ldc 96, 2) := by decide +kernel
theorem dX7_rule_50 : decode cX7_rule 50 = .ok (.invokevirtual 68, 3) := by decide +kernel
theorem dX7_rule_53 : decode cX7_rule 53 = .ok (.ireturn, 1) := by decide +kernel
theorem dX7_rule_54 : decode cX7_rule 54 = .ok (.aload_n 0, 1) := by decide +kernel
theorem dX7_rule_55 : decode cX7_rule 55 = .ok (.getfield 12, 3) := by decide +kernel
theorem dX7_rule_58 : decode cX7_rule 58 = .ok (.getfield 301, 3) := by decide +kernel
theorem dX7_rule_61 : decode cX7_rule 61 = .ok (.invokevirtual 97, 3) := by decide +kernel
theorem dX7_rule_64 : decode cX7_rule 64 = .ok (.istore_n 3, 1) := by decide +kernel
theorem dX7_rule_65 : decode cX7_rule 65 = .ok (.aload_n 0, 1) := by decide +kernel
theorem dX7_rule_66 : decode cX7_rule 66 = .ok (.getfield 12, 3) := by decide +kernel
theorem dX7_rule_69 : decode cX7_rule 69 = .ok (.getfield 301, 3) := by decide +kernel
theorem dX7_rule_72 : decode cX7_rule 72 = .ok (.iload_n 3, 1) := by decide +kernel
theorem dX7_rule_73 : decode cX7_rule 73 = .ok (.iconst 0, 1) := by decide +kernel
theorem dX7_rule_74 : decode cX7_rule 74 = .ok (.iload_n 1, 1) := by decide +kernel
theorem dX7_rule_75 : decode cX7_rule 75 = .ok (.invokevirtual 82, 3) := by decide +kernel
theorem dX7_rule_78 : decode cX7_rule 78 = .ok (.aload_n 0, 1) := by decide +kernel
theorem dX7_rule_79 : decode cX7_rule 79 = .ok (.getfield 12, 3) := by decide +kernel
theorem dX7_rule_82 : decode cX7_rule 82 = .ok (.getfield 301, 3) := by decide +kernel
theorem dX7_rule_85 : decode cX7_rule 85 = .ok (.iload_n 3, 1) := by decide +kernel
theorem dX7_rule_86 : decode cX7_rule 86 = .ok (.iconst 1, 1) := by decide +kernel
theorem dX7_rule_87 : decode cX7_rule 87 = .ok (.iload_n 2, 1) := by decide +kernel
theorem dX7_rule_88 : decode cX7_rule 88 = .ok (.invokevirtual 82, 3) := by decide +kernel
theorem dX7_rule_91 : decode cX7_rule 91 = .ok (.iload_n 3, 1) := by decide +kernel
theorem dX7_rule_92 : decode cX7_rule 92 = .ok (.ireturn, 1) := by decide +kernel
theorem dX7_rules_0 : decode cX7_rules 0 = .ok (.iload_n 1, 1) := by decide +kernel
theorem dX7_rules_1 : decode cX7_rules 1 = .ok (.aload_n 0, 1) := by decide +kernel
theorem dX7_rules_2 : decode cX7_rules 2 = .ok (.getfield 12, 3) := by decide +kernel
theorem dX7_rules_5 : decode cX7_rules 5 = .ok (.getfield 126, 3) := by decide +kernel
theorem dX7_rules_8 : decode cX7_rules 8 = .ok (.getfield 229, 3) := by decide +kernel
theorem dX7_rules_11 : decode cX7_rules 11 = .ok (.invokestatic 277, 3) := by decide +kernel
theorem dX7_rules_14 : decode cX7_rules 14 = .ok (.ifCond .eq 22, 3) := by decide +kernel
theorem dX7_rules_17 : decode cX7_rules 17 = .ok (.iload_n 2, 1) := by decide +kernel
theorem dX7_rules_18 : decode cX7_rules 18 = .ok (.iconst 1, 1) := by decide +kernel
theorem dX7_rules_19 : decode cX7_rules 19 = .ok (.bipush 24, 2) := by decide +kernel
theorem dX7_rules_21 : decode cX7_rules 21 = .ok (.invokestatic 57, 3) := by decide +kernel
theorem dX7_rules_24 : decode cX7_rules 24 = .ok (.ifCond .ne 12, 3) := by decide +kernel
theorem dX7_rules_27 : decode cX7_rules 27 = .ok (.iload_n 3, 1) := by decide +kernel
theorem dX7_rules_28 : decode cX7_rules 28 = .ok (.iconst 0, 1) := by decide +kernel
theorem dX7_rules_29 : decode cX7_rules 29 = .ok (.iconst 1, 1) := by decide +kernel
theorem dX7_rules_30 : decode cX7_rules 30 = .ok (.invokestatic 57, 3) := by decide +kernel
theorem dX7_rules_33 : decode cX7_rules 33 = .ok (.ifCond .eq 10, 3) := by decide +kernel
theorem dX7_rules_36 : decode cX7_rules 36 = .ok (.aload_n 0, 1) := by decide +kernel
theorem dX7_rules_37 : decode cX7_rules 37 = .ok (.ldc 67, 2) := by decide +kernel
theorem dX7_rules_39 : decode cX7_rules 39 = .ok (.invokevirtual 68, 3) := by decide +kernel
theorem dX7_rules_42 : decode cX7_rules 42 = .ok (.ireturn, 1) := by decide +kernel
theorem dX7_rules_43 : decode cX7_rules 43 = .ok (.iconst 0, 1) := by decide +kernel
theorem dX7_rules_44 : decode cX7_rules 44 = .ok (.istore 4, 2) := by decide +kernel
theorem dX7_rules_46 : decode cX7_rules 46 = .ok (.iconst 1, 1) := by decide +kernel
theorem dX7_rules_47 : decode cX7_rules 47 = .ok (.aload_n 0, 1) := by decide +kernel
theorem dX7_rules_48 : decode cX7_rules 48 = .ok (.getfield 12, 3) := by decide +kernel
theorem dX7_rules_51 : decode cX7_rules 51 = .ok (.getfield 301, 3) := by decide +kernel
theorem dX7_rules_54 : decode cX7_rules 54 = .ok (.getfield 229, 3) := by decide +kernel
theorem dX7_rules_57 : decode cX7_rules 57 = .ok (.ishl, 1) := by decide +kernel
theorem dX7_rules_58 : decode cX7_rules 58 = .ok (.istore 5, 2) := by decide +kernel
theorem dX7_rules_60 : decode cX7_rules 60 = .ok (.iconst 1, 1) := by decide +kernel
theorem dX7_rules_61 : decode cX7_rules 61 = .ok (.istore 6, 2) := by decide +kernel
theorem dX7_rules_63 : decode cX7_rules 63 = .ok (.iload 6, 2) := by decide +kernel
theorem dX7_rules_65 : decode cX7_rules 65 = .ok (.iload 5, 2) := by decide +kernel
theorem dX7_rules_67 : decode cX7_rules 67 = .ok (.if_icmp .ge 44, 3) := by decide +kernel
theorem dX7_rules_70 : decode cX7_rules 70 = .ok (.aload_n 0, 1) := by decide +kernel
theorem dX7_rules_71 : decode cX7_rules 71 = .ok (.iload 6, 2) := by decide +kernel
theorem dX7_rules_73 : decode cX7_rules 73 = .ok (.invokevirtual 304, 3) := by decide +kernel
theorem dX7_rules_76 : decode cX7_rules 76 = .ok (.iload_n 1, 1) := by decide +kernel
theorem dX7_rules_77 : decode cX7_rules 77 = .ok (.iand, 1) := by decide +kernel
theorem dX7_rules_78 : decode cX7_rules 78 = .ok (.invokestatic 268, 3) := by decide +kernel
theorem dX7_rules_81 : decode cX7_rules 81 = .ok (.iload_n 2, 1) := by decide +kernel
theorem dX7_rules_82 : decode cX7_rules 82 = .ok (.if_icmp .lt 23, 3) := by decide +kernel
theorem dX7_rules_85 : decode cX7_rules 85 = .ok (.iload 4, 2) := by decide +kernel
theorem dX7_rules_87 : decode cX7_rules 87 = .ok (.ifCond .eq 14, 3) := by decide +kernel
theorem dX7_rules_90 : decode cX7_rules 90 = .ok (.aload_n 0, 1) := by decide +kernel
theorem dX7_rules_91 : decode cX7_rules 91 = .ok (.iload 6, 2) := by decide +kernel
theorem dX7_rules_93 : decode cX7_rules 93 = .ok (.iload 4, 2) := by decide +kernel
theorem dX7_rules_95 : decode cX7_rules 95 = .ok (.invokevirtual 307, 3) := by decide +kernel
theorem dX7_rules_98 : decode cX7_rules 98 = .ok (.ifCond .eq 7, 3) := by decide +kernel
theorem dX7_rules_101 : decode cX7_rules 101 = .ok (.iload 6, 2) := by decide +kernel
theorem dX7_rules_103 : decode cX7_rules 103 = .ok (.istore 4, 2) := by decide +kernel
theorem dX7_rules_105 : decode cX7_rules 105 = .ok (.iinc 6 1, 3) := by decide +kernel
theorem dX7_rules_108 : decode cX7_rules 108 = .ok (.goto (-45), 3) := by decide +kernel
theorem dX7_rules_111 : decode cX7_rules 111 = .ok (.iload 4, 2) := by decide +kernel
theorem dX7_rules_113 : decode cX7_rules 113 = .ok (.ifCond .ne 10, 3) := by decide +kernel
theorem dX7_rules_116 : decode cX7_rules 116 = .ok (.aload_n 0, 1) := by decide +kernel
theorem dX7_rules_117 : decode cX7_rules 117 = .ok (.ldc 117, 2) := by decide +kernel
theorem dX7_rules_119 : decode cX7_rules 119 = .ok (.invokevirtual 68, 3) := by decide +kernel
theorem dX7_rules_122 : decode cX7_rules 122 = .ok (.ireturn, 1) := by decide +kernel
theorem dX7_rules_123 : decode cX7_rules 123 = .ok (.iload_n 3, 1) := by decide +kernel
theorem dX7_rules_124 : decode cX7_rules 124 = .ok (.ifCond .ne 12, 3) := by decide +kernel
theorem dX7_rules_127 : decode cX7_rules 127 = .ok (.aload_n 0, 1) := by decide +kernel
theorem dX7_rules_128 : decode cX7_rules 128 = .ok (.iload 4, 2) := by decide +kernel
theorem dX7_rules_130 : decode cX7_rules 130 = .ok (.invokevirtual 310, 3) := by decide +kernel
theorem dX7_rules_133 : decode cX7_rules 133 = .ok (.goto 5, 3) := by decide +kernel
theorem dX7_rules_136 : decode cX7_rules 136 = .ok (.iload 4, 2) := by decide +kernel
theorem dX7_rules_138 : decode cX7_rules 138 = .ok (.ireturn, 1) := by decide +kernel
theorem dX7_voice_0 : decode cX7_voice 0 = .ok (.aload_n 0, 1) := by decide +kernel
theorem dX7_voice_1 : decode cX7_voice 1 = .ok (.getfield 12, 3) := by decide +kernel
theorem dX7_voice_4 : decode cX7_voice 4 = .ok (.getfield 126, 3) := by decide +kernel
theorem dX7_voice_7 : decode cX7_voice 7 = .ok (.iload_n 1, 1) := by decide +kernel
theorem dX7_voice_8 : decode cX7_voice 8 = .ok (.invokevirtual 101, 3) := by decide +kernel
theorem dX7_voice_11 : decode cX7_voice 11 = .ok (.ifCond .eq 12, 3) := by decide +kernel
theorem dX7_voice_14 : decode cX7_voice 14 = .ok (.iload_n 2, 1) := by decide +kernel
theorem dX7_voice_15 : decode cX7_voice 15 = .ok (.iconst 0, 1) := by decide +kernel
theorem dX7_voice_16 : decode cX7_voice 16 = .ok (.iconst 3, 1) := by decide +kernel
theorem dX7_voice_17 : decode cX7_voice 17 = .ok (.invokestatic 57, 3) := by decide +kernel
theorem dX7_voice_20 : decode cX7_voice 20 = .ok (.ifCond .eq 10, 3) := by decide +kernel
theorem dX7_voice_23 : decode cX7_voice 23 = .ok (.aload_n 0, 1) := by decide +kernel
theorem dX7_voice_24 : decode cX7_voice 24 = .ok (.ldc 67, 2) := by decide +kernel
theorem dX7_voice_26 : decode cX7_voice 26 = .ok (.invokevirtual 68, 3) := by decide +kernel
theorem dX7_voice_29 : decode cX7_voice 29 = .ok (.ireturn, 1) := by decide +kernel
theorem dX7_voice_30 : decode cX7_voice 30 = .ok (.aload_n 0, 1) := by decide +kernel
theorem dX7_voice_31 : decode cX7_voice 31 = .ok (.getfield 26, 3) := by decide +kernel
theorem dX7_voice_34 : decode cX7_voice 34 = .ok (.aload_n 0, 1) := by decide +kernel
theorem dX7_voice_35 : decode cX7_voice 35 = .ok (.getfield 12, 3) := by decide +kernel
theorem dX7_voice_38 : decode cX7_voice 38 = .ok (.getfield 126, 3) := by decide +kernel
theorem dX7_voice_41 : decode cX7_voice 41 = .ok (.iload_n 1, 1) := by decide +kernel
theorem dX7_voice_42 : decode cX7_voice 42 = .ok (.iconst 0, 1) := by decide +kernel
theorem dX7_voice_43 : decode cX7_voice 43 = .ok (.invokevirtual 76, 3) := by decide +kernel
theorem dX7_voice_46 : decode cX7_voice 46 = .ok (.iload_n 1, 1) := by decide +kernel
theorem dX7_voice_47 : decode cX7_voice 47 = .ok (.aload_n 0, 1) := by decide +kernel
theorem dX7_voice_48 : decode cX7_voice 48 = .ok (.getfield 12, 3) := by decide +kernel
theorem dX7_voice_51 : decode cX7_voice 51 = .ok (.iload_n 1, 1) := by decide +kernel
theorem dX7_voice_52 : decode cX7_voice 52 = .ok (.invokevirtual 163, 3) := by decide +kernel
theorem dX7_voice_55 : decode cX7_voice 55 = .ok (.iload_n 2, 1) := by decide +kernel
theorem dX7_voice_56 : decode cX7_voice 56 = .ok (.iload_n 3, 1) := by decide +kernel
theorem dX7_voice_57 : decode cX7_voice 57 = .ok (.invokevirtual 313, 3) := by decide +kernel
theorem dX7_voice_60 : decode cX7_voice 60 = .ok (.istore 4, 2) := by decide +kernel
theorem dX7_voice_62 : decode cX7_voice 62 = .ok (.aload_n 0, 1) := by decide +kernel
theorem dX7_voice_63 : decode cX7_voice 63 = .ok (.getfield 26, 3) := by decide +kernel
theorem dX7_voice_66 : decode cX7_voice 66 = .ok (.getfield 316, 3) := by decide +kernel
theorem dX7_voice_69 : decode cX7_voice 69 = .ok (.ifCond .eq 13, 3) := by decide +kernel
theorem dX7_voice_72 : decode cX7_voice 72 = .ok (.aload_n 0, 1) := by decide +kernel
theorem dX7_voice_73 : decode cX7_voice 73 = .ok (.ldc_w 319, 3) := by decide +kernel
theorem dX7_voice_76 : decode cX7_voice 76 = .ok (.invokevirtual 68, 3) := by decide +kernel
theorem dX7_voice_79 : decode cX7_voice 79 = .ok (.goto 5, 3) := by decide +kernel
theorem dX7_voice_82 : decode cX7_voice 82 = .ok (.iload 4, 2) := by decide +kernel
theorem dX7_voice_84 : decode cX7_voice 84 = .ok (.ireturn, 1) := by decide +kernel
theorem dX7_trace_0 : decode cX7_trace 0 = .ok (.iload_n 1, 1) := by decide +kernel
theorem dX7_trace_1 : decode cX7_trace 1 = .ok (.iconst 0, 1) := by decide +kernel
theorem dX7_trace_2 : decode cX7_trace 2 = .ok (.aload_n 0, 1) := by decide +kernel
theorem dX7_trace_3 : decode cX7_trace 3 = .ok (.getfield 26, 3) := by decide +kernel
theorem dX7_trace_6 : decode cX7_trace 6 = .ok (.getfield 320, 3) := by decide +kernel
theorem dX7_trace_9 : decode cX7_trace 9 = .ok (.iconst 1, 1) := by decide +kernel
theorem dX7_trace_10 : decode cX7_trace 10 = .ok (.isub, 1) := by decide +kernel
theorem dX7_trace_11 : decode cX7_trace 11 = .ok (.invokestatic 57, 3) := by decide +kernel
theorem dX7_trace_14 : decode cX7_trace 14 = .ok (.ifCond .eq 10, 3) := by decide +kernel
theorem dX7_trace_17 : decode cX7_trace 17 = .ok (.aload_n 0, 1) := by decide +kernel
theorem dX7_trace_18 : decode cX7_trace 18 = .ok (.ldc 117, 2) := by decide +kernel
theorem dX7_trace_20 : decode cX7_trace 20 = .ok (.invokevirtual 68, 3) := by decide +kernel
theorem dX7_trace_23 : decode cX7_trace 23 = .ok (.ireturn, 1) := by decide +kernel
theorem dX7_trace_24 : decode cX7_trace 24 = .ok (.aload_n 0, 1) := by decide +kernel
theorem dX7_trace_25 : decode cX7_trace 25 = .ok (.getfield 26, 3) := by decide +kernel
theorem dX7_trace_28 : decode cX7_trace 28 = .ok (.getfield 323, 3) := by decide +kernel
theorem dX7_trace_31 : decode cX7_trace 31 = .ok (.iload_n 1, 1) := by decide +kernel
theorem dX7_trace_32 : decode cX7_trace 32 = .ok (.iaload, 1) := by decide +kernel
theorem dX7_trace_33 : decode cX7_trace 33 = .ok (.ireturn, 1) := by decide +kernel
theorem dX7_sheet_0 : decode cX7_sheet 0 = .ok (.iload_n 1, 1) := by decide +kernel
theorem dX7_sheet_1 : decode cX7_sheet 1 = .ok (.iconst 0, 1) := by decide +kernel
theorem dX7_sheet_2 : decode cX7_sheet 2 = .ok (.iconst 3, 1) := by decide +kernel
theorem dX7_sheet_3 : decode cX7_sheet 3 = .ok (.invokestatic 57, 3) := by decide +kernel
theorem dX7_sheet_6 : decode cX7_sheet 6 = .ok (.ifCond .ne 10, 3) := by decide +kernel
theorem dX7_sheet_9 : decode cX7_sheet 9 = .ok (.iload_n 2, 1) := by decide +kernel
theorem dX7_sheet_10 : decode cX7_sheet 10 = .ok (.invokestatic 326, 3) := by decide +kernel
theorem dX7_sheet_13 : decode cX7_sheet 13 = .ok (.ifCond .ne 10, 3) := by decide +kernel
theorem dX7_sheet_16 : decode cX7_sheet 16 = .ok (.aload_n 0, 1) := by decide +kernel
theorem dX7_sheet_17 : decode cX7_sheet 17 = .ok (.ldc 67, 2) := by decide +kernel
theorem dX7_sheet_19 : decode cX7_sheet 19 = .ok (.invokevirtual 68, 3) := by decide +kernel
theorem dX7_sheet_22 : decode cX7_sheet 22 = .ok (.ireturn, 1) := by decide +kernel
theorem dX7_sheet_23 : decode cX7_sheet 23 = .ok (.iload_n 2, 1) := by decide +kernel
theorem dX7_sheet_24 : decode cX7_sheet 24 = .ok (.ifCond .eq 15, 3) := by decide +kernel
theorem dX7_sheet_27 : decode cX7_sheet 27 = .ok (.iload_n 3, 1) := by decide +kernel
theorem dX7_sheet_28 : decode cX7_sheet 28 = .ok (.ifCond .ge 11, 3) := by decide +kernel
theorem dX7_sheet_31 : decode cX7_sheet 31 = .ok (.aload_n 0, 1) := by decide +kernel
theorem dX7_sheet_32 : decode cX7_sheet 32 = .ok (.ldc_w 276, 3) := by decide +kernel
theorem dX7_sheet_35 : decode cX7_sheet 35 = .ok (.invokevirtual 68, 3) := by decide +kernel
theorem dX7_sheet_38 : decode cX7_sheet 38 = .ok (.ireturn, 1) := by decide +kernel
theorem dX7_sheet_39 : decode cX7_sheet 39 = .ok (.iload_n 2, 1) := by decide +kernel
theorem dX7_sheet_40 : decode cX7_sheet 40 = .ok (.ifCond .eq 16, 3) := by decide +kernel
theorem dX7_sheet_43 : decode cX7_sheet 43 = .ok (.iload_n 3, 1) := by decide +kernel
theorem dX7_sheet_44 : decode cX7_sheet 44 = .ok (.bipush 24, 2) := by decide +kernel
theorem dX7_sheet_46 : decode cX7_sheet 46 = .ok (.if_icmp .le 10, 3) := by decide +kernel
theorem dX7_sheet_49 : decode cX7_sheet 49 = .ok (.aload_n 0, 1) := by decide +kernel
theorem dX7_sheet_50 : decode cX7_sheet 50 = .ok (.ldc 67, 2) := by decide +kernel
theorem dX7_sheet_52 : decode cX7_sheet 52 = .ok (.invokevirtual 68, 3) := by decide +kernel
theorem dX7_sheet_55 : decode cX7_sheet 55 = .ok (.ireturn, 1) := by decide +kernel
theorem dX7_sheet_56 : decode cX7_sheet 56 = .ok (.aload_n 0, 1) := by decide +kernel
theorem dX7_sheet_57 : decode cX7_sheet 57 = .ok (.getfield 32, 3) := by decide +kernel
theorem dX7_sheet_60 : decode cX7_sheet 60 = .ok (.iload_n 1, 1) := by decide +kernel
theorem dX7_sheet_61 : decode cX7_sheet 61 = .ok (.aaload, 1) := by decide +kernel
theorem dX7_sheet_62 : decode cX7_sheet 62 = .ok (.iload_n 2, 1) := by decide +kernel
theorem dX7_sheet_63 : decode cX7_sheet 63 = .ok (.iload_n 2, 1) := by decide +kernel
theorem dX7_sheet_64 : decode cX7_sheet 64 = .ok (.ifCond .ne 7, 3) := by decide +kernel
theorem dX7_sheet_67 : decode cX7_sheet 67 = .ok (.iconst 0, 1) := by decide +kernel
theorem dX7_sheet_68 : decode cX7_sheet 68 = .ok (.goto 4, 3) := by decide +kernel
theorem dX7_sheet_71 : decode cX7_sheet 71 = .ok (.iload_n 3, 1) := by decide +kernel
theorem dX7_sheet_72 : decode cX7_sheet 72 = .ok (.invokevirtual 329, 3) := by decide +kernel
theorem dX7_sheet_75 : decode cX7_sheet 75 = .ok (.iconst 1, 1) := by decide +kernel
theorem dX7_sheet_76 : decode cX7_sheet 76 = .ok (.ireturn, 1) := by decide +kernel
theorem dX7_put_0 : decode cX7_put 0 = .ok (.iload_n 1, 1) := by decide +kernel
theorem dX7_put_1 : decode cX7_put 1 = .ok (.iconst 0, 1) := by decide +kernel
theorem dX7_put_2 : decode cX7_put 2 = .ok (.iconst 3, 1) := by decide +kernel
theorem dX7_put_3 : decode cX7_put 3 = .ok (.invokestatic 57, 3) := by decide +kernel
theorem dX7_put_6 : decode cX7_put 6 = .ok (.ifCond .eq 10, 3) := by decide +kernel
theorem dX7_put_9 : decode cX7_put 9 = .ok (.aload_n 0, 1) := by decide +kernel
theorem dX7_put_10 : decode cX7_put 10 = .ok (.ldc 67, 2) := by decide +kernel
theorem dX7_put_12 : decode cX7_put 12 = .ok (.invokevirtual 68, 3) := by decide +kernel
theorem dX7_put_15 : decode cX7_put 15 = .ok (.ireturn, 1) := by decide +kernel
theorem dX7_put_16 : decode cX7_put 16 = .ok (.aload_n 0, 1) := by decide +kernel
theorem dX7_put_17 : decode cX7_put 17 = .ok (.getfield 32, 3) := by decide +kernel
theorem dX7_put_20 : decode cX7_put 20 = .ok (.iload_n 1, 1) := by decide +kernel
theorem dX7_put_21 : decode cX7_put 21 = .ok (.aaload, 1) := by decide +kernel
theorem dX7_put_22 : decode cX7_put 22 = .ok (.invokevirtual 114, 3) := by decide +kernel
theorem dX7_put_25 : decode cX7_put 25 = .ok (.ifCond .eq 10, 3) := by decide +kernel
theorem dX7_put_28 : decode cX7_put 28 = .ok (.aload_n 0, 1) := by decide +kernel
theorem dX7_put_29 : decode cX7_put 29 = .ok (.ldc 117, 2) := by decide +kernel
theorem dX7_put_31 : decode cX7_put 31 = .ok (.invokevirtual 68, 3) := by decide +kernel
theorem dX7_put_34 : decode cX7_put 34 = .ok (.ireturn, 1) := by decide +kernel
theorem dX7_put_35 : decode cX7_put 35 = .ok (.aload_n 0, 1) := by decide +kernel
theorem dX7_put_36 : decode cX7_put 36 = .ok (.getfield 32, 3) := by decide +kernel
theorem dX7_put_39 : decode cX7_put 39 = .ok (.iload_n 1, 1) := by decide +kernel
theorem dX7_put_40 : decode cX7_put 40 = .ok (.aaload, 1) := by decide +kernel
theorem dX7_put_41 : decode cX7_put 41 = .ok (.iload_n 2, 1) := by decide +kernel
theorem dX7_put_42 : decode cX7_put 42 = .ok (.iconst 1, 1) := by decide +kernel
theorem dX7_put_43 : decode cX7_put 43 = .ok (.invokevirtual 118, 3) := by decide +kernel
theorem dX7_put_46 : decode cX7_put 46 = .ok (.ifCond .ne 10, 3) := by decide +kernel
theorem dX7_put_49 : decode cX7_put 49 = .ok (.aload_n 0, 1) := by decide +kernel
theorem dX7_put_50 : decode cX7_put 50 = .ok (.ldc 67, 2) := by decide +kernel
theorem dX7_put_52 : decode cX7_put 52 = .ok (.invokevirtual 68, 3) := by decide +kernel
theorem dX7_put_55 : decode cX7_put 55 = .ok (.ireturn, 1) := by decide +kernel
theorem dX7_put_56 : decode cX7_put 56 = .ok (.aload_n 0, 1) := by decide +kernel
theorem dX7_put_57 : decode cX7_put 57 = .ok (.getfield 32, 3) := by decide +kernel
theorem dX7_put_60 : decode cX7_put 60 = .ok (.iload_n 1, 1) := by decide +kernel
theorem dX7_put_61 : decode cX7_put 61 = .ok (.aaload, 1) := by decide +kernel
theorem dX7_put_62 : decode cX7_put 62 = .ok (.iload_n 2, 1) := by decide +kernel
theorem dX7_put_63 : decode cX7_put 63 = .ok (.iload_n 3, 1) := by decide +kernel
theorem dX7_put_64 : decode cX7_put 64 = .ok (.invokevirtual 332, 3) := by decide +kernel
theorem dX7_put_67 : decode cX7_put 67 = .ok (.iconst 1, 1) := by decide +kernel
theorem dX7_put_68 : decode cX7_put 68 = .ok (.ireturn, 1) := by decide +kernel
theorem dX7_move_0 : decode cX7_move 0 = .ok (.iload_n 1, 1) := by decide +kernel
theorem dX7_move_1 : decode cX7_move 1 = .ok (.iconst 0, 1) := by decide +kernel
theorem dX7_move_2 : decode cX7_move 2 = .ok (.iconst 3, 1) := by decide +kernel
theorem dX7_move_3 : decode cX7_move 3 = .ok (.invokestatic 57, 3) := by decide +kernel
theorem dX7_move_6 : decode cX7_move 6 = .ok (.ifCond .ne 12, 3) := by decide +kernel
theorem dX7_move_9 : decode cX7_move 9 = .ok (.iload_n 3, 1) := by decide +kernel
theorem dX7_move_10 : decode cX7_move 10 = .ok (.iconst 0, 1) := by decide +kernel
theorem dX7_move_11 : decode cX7_move 11 = .ok (.iconst 3, 1) := by decide +kernel
theorem dX7_move_12 : decode cX7_move 12 = .ok (.invokestatic 57, 3) := by decide +kernel
theorem dX7_move_15 : decode cX7_move 15 = .ok (.ifCond .eq 10, 3) := by decide +kernel
theorem dX7_move_18 : decode cX7_move 18 = .ok (.aload_n 0, 1) := by decide +kernel
theorem dX7_move_19 : decode cX7_move 19 = .ok (.ldc 67, 2) := by decide +kernel
theorem dX7_move_21 : decode cX7_move 21 = .ok (.invokevirtual 68, 3) := by decide +kernel
theorem dX7_move_24 : decode cX7_move 24 = .ok (.ireturn, 1) := by decide +kernel
theorem dX7_move_25 : decode cX7_move 25 = .ok (.aload_n 0, 1) := by decide +kernel
theorem dX7_move_26 : decode cX7_move 26 = .ok (.getfield 32, 3) := by decide +kernel
theorem dX7_move_29 : decode cX7_move 29 = .ok (.iload_n 1, 1) := by decide +kernel
theorem dX7_move_30 : decode cX7_move 30 = .ok (.aaload, 1) := by decide +kernel
theorem dX7_move_31 : decode cX7_move 31 = .ok (.astore 6, 2) := by decide +kernel
theorem dX7_move_33 : decode cX7_move 33 = .ok (.aload_n 0, 1) := by decide +kernel
theorem dX7_move_34 : decode cX7_move 34 = .ok (.getfield 32, 3) := by decide +kernel
theorem dX7_move_37 : decode cX7_move 37 = .ok (.iload_n 3, 1) := by decide +kernel
theorem dX7_move_38 : decode cX7_move 38 = .ok (.aaload, 1) := by decide +kernel
theorem dX7_move_39 : decode cX7_move 39 = .ok (.astore 7, 2) := by decide +kernel
theorem dX7_move_41 : decode cX7_move 41 = .ok (.aload 6, 2) := by decide +kernel
theorem dX7_move_43 : decode cX7_move 43 = .ok (.invokevirtual 114, 3) := by decide +kernel
theorem dX7_move_46 : decode cX7_move 46 = .ok (.ifCond .ne 11, 3) := by decide +kernel
theorem dX7_move_49 : decode cX7_move 49 = .ok (.aload 7, 2) := by decide +kernel
theorem dX7_move_51 : decode cX7_move 51 = .ok (.invokevirtual 114, 3) := by decide +kernel
theorem dX7_move_54 : decode cX7_move 54 = .ok (.ifCond .eq 10, 3) := by decide +kernel
theorem dX7_move_57 : decode cX7_move 57 = .ok (.aload_n 0, 1) := by decide +kernel
theorem dX7_move_58 : decode cX7_move 58 = .ok (.ldc 117, 2) := by decide +kernel
theorem dX7_move_60 : decode cX7_move 60 = .ok (.invokevirtual 68, 3) := by decide +kernel
theorem dX7_move_63 : decode cX7_move 63 = .ok (.ireturn, 1) := by decide +kernel
theorem dX7_move_64 : decode cX7_move 64 = .ok (.aload 6, 2) := by decide +kernel
theorem dX7_move_66 : decode cX7_move 66 = .ok (.getfield 334, 3) := by decide +kernel
theorem dX7_move_69 : decode cX7_move 69 = .ok (.aload 7, 2) := by decide +kernel
theorem dX7_move_71 : decode cX7_move 71 = .ok (.getfield 334, 3) := by decide +kernel
theorem dX7_move_74 : decode cX7_move 74 = .ok (.if_icmp .eq 10, 3) := by decide +kernel
theorem dX7_move_77 : decode cX7_move 77 = .ok (.aload_n 0, 1) := by decide +kernel
theorem dX7_move_78 : decode cX7_move 78 = .ok (.ldc 162, 2) := by decide +kernel
theorem dX7_move_80 : decode cX7_move 80 = .ok (.invokevirtual 68, 3) := by decide +kernel
theorem dX7_move_83 : decode cX7_move 83 = .ok (.ireturn, 1) := by decide +kernel
theorem dX7_move_84 : decode cX7_move 84 = .ok (.aload 6, 2) := by decide +kernel
theorem dX7_move_86 : decode cX7_move 86 = .ok (.iload_n 2, 1) := by decide +kernel
theorem dX7_move_87 : decode cX7_move 87 = .ok (.iload 5, 2) := by decide +kernel
theorem dX7_move_89 : decode cX7_move 89 = .ok (.invokevirtual 118, 3) := by decide +kernel
theorem dX7_move_92 : decode cX7_move 92 = .ok (.ifCond .eq 15, 3) := by decide +kernel
theorem dX7_move_95 : decode cX7_move 95 = .ok (.aload 7, 2) := by decide +kernel
theorem dX7_move_97 : decode cX7_move 97 = .ok (.iload 4, 2) := by decide +kernel
theorem dX7_move_99 : decode cX7_move 99 = .ok (.iload 5, 2) := by decide +kernel
theorem dX7_move_101 : decode cX7_move 101 = .ok (.invokevirtual 118, 3) := by decide +kernel
theorem dX7_move_104 : decode cX7_move 104 = .ok (.ifCond .ne 10, 3) := by decide +kernel
theorem dX7_move_107 : decode cX7_move 107 = .ok (.aload_n 0, 1) := by decide +kernel
theorem dX7_move_108 : decode cX7_move 108 = .ok (.ldc 67, 2) := by decide +kernel
theorem dX7_move_110 : decode cX7_move 110 = .ok (.invokevirtual 68, 3) := by decide +kernel
theorem dX7_move_113 : decode cX7_move 113 = .ok (.ireturn, 1) := by decide +kernel
theorem dX7_move_114 : decode cX7_move 114 = .ok (.aload 6, 2) := by decide +kernel
theorem dX7_move_116 : decode cX7_move 116 = .ok (.getfield 337, 3) := by decide +kernel
theorem dX7_move_119 : decode cX7_move 119 = .ok (.iload_n 2, 1) := by decide +kernel
theorem dX7_move_120 : decode cX7_move 120 = .ok (.aload 7, 2) := by decide +kernel
theorem dX7_move_122 : decode cX7_move 122 = .ok (.getfield 337, 3) := by decide +kernel
theorem dX7_move_125 : decode cX7_move 125 = .ok (.iload 4, 2) := by decide +kernel
theorem dX7_move_127 : decode cX7_move 127 = .ok (.iload 5, 2) := by decide +kernel
theorem dX7_move_129 : decode cX7_move 129 = .ok (.invokestatic 340, 3) := by decide +kernel
theorem dX7_move_132 : decode cX7_move 132 = .ok (.iload 5, 2) := by decide +kernel
theorem dX7_move_134 : decode cX7_move 134 = .ok (.ireturn, 1) := by decide +kernel
theorem dX7_image_0 : decode cX7_image 0 = .ok (.aload_n 0, 1) := by decide +kernel
theorem dX7_image_1 : decode cX7_image 1 = .ok (.getfield 49, 3) := by decide +kernel
theorem dX7_image_4 : decode cX7_image 4 = .ok (.ifnonnull 14, 3) := by decide +kernel
theorem dX7_image_7 : decode cX7_image 7 = .ok (.aload_n 0, 1) := by decide +kernel
theorem dX7_image_8 : decode cX7_image 8 = .ok (.new 9, 3) := by decide +kernel
theorem dX7_image_11 : decode cX7_image 11 = .ok (.dup, 1) := by decide +kernel
theorem dX7_image_12 : decode cX7_image 12 = .ok (.invokespecial 11, 3) := by decide +kernel
theorem dX7_image_15 : decode cX7_image 15 = .ok (.putfield 49, 3) := by decide +kernel
theorem dX7_image_18 : decode cX7_image 18 = .ok (.aload_n 0, 1) := by decide +kernel
theorem dX7_image_19 : decode cX7_image 19 = .ok (.getfield 49, 3) := by decide +kernel
theorem dX7_image_22 : decode cX7_image 22 = .ok (.aload_n 0, 1) := by decide +kernel
theorem dX7_image_23 : decode cX7_image 23 = .ok (.getfield 12, 3) := by decide +kernel
theorem dX7_image_26 : decode cX7_image 26 = .ok (.invokevirtual 346, 3) := by decide +kernel
theorem dX7_image_29 : decode cX7_image 29 = .ok (.aload_n 0, 1) := by decide +kernel
theorem dX7_image_30 : decode cX7_image 30 = .ok (.dup, 1) := by decide +kernel
theorem dX7_image_31 : decode cX7_image 31 = .ok (.getfield 52, 3) := by decide +kernel
theorem dX7_image_34 : decode cX7_image 34 = .ok (.iconst 1, 1) := by decide +kernel
theorem dX7_image_35 : decode cX7_image 35 = .ok (.iadd, 1) := by decide +kernel
theorem dX7_image_36 : decode cX7_image 36 = .ok (.putfield 52, 3) := by decide +kernel
theorem dX7_image_39 : decode cX7_image 39 = .ok (.aload_n 0, 1) := by decide +kernel
theorem dX7_image_40 : decode cX7_image 40 = .ok (.getfield 52, 3) := by decide +kernel
theorem dX7_image_43 : decode cX7_image 43 = .ok (.ireturn, 1) := by decide +kernel
theorem dX7_restore_0 : decode cX7_restore 0 = .ok (.aload_n 0, 1) := by decide +kernel
theorem dX7_restore_1 : decode cX7_restore 1 = .ok (.getfield 49, 3) := by decide +kernel
theorem dX7_restore_4 : decode cX7_restore 4 = .ok (.ifnonnull 10, 3) := by decide +kernel
theorem dX7_restore_7 : decode cX7_restore 7 = .ok (.aload_n 0, 1) := by decide +kernel
theorem dX7_restore_8 : decode cX7_restore 8 = .ok (.ldc 117, 2) := by decide +kernel
theorem dX7_restore_10 : decode cX7_restore 10 = .ok (.invokevirtual 68, 3) := by decide +kernel
theorem dX7_restore_13 : decode cX7_restore 13 = .ok (.ireturn, 1) := by decide +kernel
theorem dX7_restore_14 : decode cX7_restore 14 = .ok (.aload_n 0, 1) := by decide +kernel
theorem dX7_restore_15 : decode cX7_restore 15 = .ok (.getfield 12, 3) := by decide +kernel
theorem dX7_restore_18 : decode cX7_restore 18 = .ok (.aload_n 0, 1) := by decide +kernel
theorem dX7_restore_19 : decode cX7_restore 19 = .ok (.getfield 49, 3) := by decide +kernel
theorem dX7_restore_22 : decode cX7_restore 22 = .ok (.invokevirtual 346, 3) := by decide +kernel
theorem dX7_restore_25 : decode cX7_restore 25 = .ok (.aload_n 0, 1) := by decide +kernel
theorem dX7_restore_26 : decode cX7_restore 26 = .ok (.getfield 12, 3) := by decide +kernel
theorem dX7_restore_29 : decode cX7_restore 29 = .ok (.getfield 126, 3) := by decide +kernel
theorem dX7_restore_32 : decode cX7_restore 32 = .ok (.getfield 229, 3) := by decide +kernel
theorem dX7_restore_35 : decode cX7_restore 35 = .ok (.ireturn, 1) := by decide +kernel
theorem dX7_tell_0 : decode cX7_tell 0 = .ok (.aload_n 0, 1) := by decide +kernel
theorem dX7_tell_1 : decode cX7_tell 1 = .ok (.getfield 12, 3) := by decide +kernel
theorem dX7_tell_4 : decode cX7_tell 4 = .ok (.getfield 349, 3) := by decide +kernel
theorem dX7_tell_7 : decode cX7_tell 7 = .ok (.invokevirtual 92, 3) := by decide +kernel
theorem dX7_tell_10 : decode cX7_tell 10 = .ok (.ifCond .eq 10, 3) := by decide +kernel
theorem dX7_tell_13 : decode cX7_tell 13 = .ok (.aload_n 0, 1) := by decide +kernel
theorem dX7_tell_14 : decode cX7_tell 14 = .ok (.ldc 96, 2) := by decide +kernel
theorem dX7_tell_16 : decode cX7_tell 16 = .ok (.invokevirtual 68, 3) := by decide +kernel
theorem dX7_tell_19 : decode cX7_tell 19 = .ok (.ireturn, 1) := by decide +kernel
theorem dX7_tell_20 : decode cX7_tell 20 = .ok (.aload_n 0, 1) := by decide +kernel
theorem dX7_tell_21 : decode cX7_tell 21 = .ok (.getfield 12, 3) := by decide +kernel
theorem dX7_tell_24 : decode cX7_tell 24 = .ok (.getfield 349, 3) := by decide +kernel
theorem dX7_tell_27 : decode cX7_tell 27 = .ok (.aload_n 0, 1) := by decide +kernel
theorem dX7_tell_28 : decode cX7_tell 28 = .ok (.getfield 12, 3) := by decide +kernel
theorem dX7_tell_31 : decode cX7_tell 31 = .ok (.getfield 349, 3) := by decide +kernel
theorem dX7_tell_34 : decode cX7_tell 34 = .ok (.invokevirtual 97, 3) := by decide +kernel
theorem dX7_tell_37 : decode cX7_tell 37 = .ok (.iconst 0, 1) := by decide +kernel
theorem dX7_tell_38 : decode cX7_tell 38 = .ok (.iload_n 1, 1) := by decide +kernel
theorem dX7_tell_39 : decode cX7_tell 39 = .ok (.invokevirtual 82, 3) := by decide +kernel
theorem dX7_tell_42 : decode cX7_tell 42 = .ok (.aload_n 0, 1) := by decide +kernel
theorem dX7_tell_43 : decode cX7_tell 43 = .ok (.getfield 12, 3) := by decide +kernel
theorem dX7_tell_46 : decode cX7_tell 46 = .ok (.getfield 349, 3) := by decide +kernel
theorem dX7_tell_49 : decode cX7_tell 49 = .ok (.getfield 229, 3) := by decide +kernel
theorem dX7_tell_52 : decode cX7_tell 52 = .ok (.ireturn, 1) := by decide +kernel
theorem dX7_check_0 : decode cX7_check 0 = .ok (.iload_n 1, 1) := by decide +kernel
theorem dX7_check_1 : decode cX7_check 1 = .ok (.invokestatic 149, 3) := by decide +kernel
theorem dX7_check_4 : decode cX7_check 4 = .ok (.ifCond .eq 11, 3) := by decide +kernel
theorem dX7_check_7 : decode cX7_check 7 = .ok (.aload_n 0, 1) := by decide +kernel
theorem dX7_check_8 : decode cX7_check 8 = .ok (.iload_n 1, 1) := by decide +kernel
theorem dX7_check_9 : decode cX7_check 9 = .ok (.invokevirtual 352, 3) := by decide +kernel
theorem dX7_check_12 : decode cX7_check 12 = .ok (.goto 9, 3) := by decide +kernel
theorem dX7_check_15 : decode cX7_check 15 = .ok (.aload_n 0, 1) := by decide +kernel
theorem dX7_check_16 : decode cX7_check 16 = .ok (.ldc 67, 2) := by decide +kernel
theorem dX7_check_18 : decode cX7_check 18 = .ok (.invokevirtual 68, 3) := by decide +kernel
theorem dX7_check_21 : decode cX7_check 21 = .ok (.istore_n 2, 1) := by decide +kernel
theorem dX7_check_22 : decode cX7_check 22 = .ok (.aload_n 0, 1) := by decide +kernel
theorem dX7_check_23 : decode cX7_check 23 = .ok (.getfield 12, 3) := by decide +kernel
theorem dX7_check_26 : decode cX7_check 26 = .ok (.getfield 349, 3) := by decide +kernel
theorem dX7_check_29 : decode cX7_check 29 = .ok (.invokevirtual 355, 3) := by decide +kernel
theorem dX7_check_32 : decode cX7_check 32 = .ok (.iload_n 2, 1) := by decide +kernel
theorem dX7_check_33 : decode cX7_check 33 = .ok (.ireturn, 1) := by decide +kernel
theorem dX7_count_0 : decode cX7_count 0 = .ok (.iload_n 1, 1) := by decide +kernel
theorem dX7_count_1 : decode cX7_count 1 = .ok (.tableswitch 164 0 9 #[55, 66, 77, 88, 99, 111, 122, 133, 144, 152], 55) := by decide +kernel
theorem dX7_count_56 : decode cX7_count 56 = .ok (.aload_n 0, 1) := by decide +kernel
theorem dX7_count_57 : decode cX7_count 57 = .ok (.getfield 12, 3) := by decide +kernel
theorem dX7_count_60 : decode cX7_count 60 = .ok (.getfield 89, 3) := by decide +kernel
theorem dX7_count_63 : decode cX7_count 63 = .ok (.getfield 229, 3) := by decide +kernel
theorem dX7_count_66 : decode cX7_count 66 = .ok (.ireturn, 1) := by decide +kernel
theorem dX7_count_67 : decode cX7_count 67 = .ok (.aload_n 0, 1) := by decide +kernel
theorem dX7_count_68 : decode cX7_count 68 = .ok (.getfield 12, 3) := by decide +kernel
theorem dX7_count_71 : decode cX7_count 71 = .ok (.getfield 126, 3) := by decide +kernel
theorem dX7_count_74 : decode cX7_count 74 = .ok (.getfield 229, 3) := by decide +kernel
theorem dX7_count_77 : decode cX7_count 77 = .ok (.ireturn, 1) := by decide +kernel
theorem dX7_count_78 : decode cX7_count 78 = .ok (.aload_n 0, 1) := by decide +kernel
theorem dX7_count_79 : decode cX7_count 79 = .ok (.getfield 12, 3) := by decide +kernel
theorem dX7_count_82 : decode cX7_count 82 = .ok (.getfield 283, 3) := by decide +kernel
theorem dX7_count_85 : decode cX7_count 85 = .ok (.getfield 229, 3) := by decide +kernel
theorem dX7_count_88 : decode cX7_count 88 = .ok (.ireturn, 1) := by decide +kernel
theorem dX7_count_89 : decode cX7_count 89 = .ok (.aload_n 0, 1) := by decide +kernel
theorem dX7_count_90 : decode cX7_count 90 = .ok (.getfield 12, 3) := by decide +kernel
theorem dX7_count_93 : decode cX7_count 93 = .ok (.getfield 286, 3) := by decide +kernel
theorem dX7_count_96 : decode cX7_count 96 = .ok (.getfield 229, 3) := by decide +kernel
theorem dX7_count_99 : decode cX7_count 99 = .ok (.ireturn, 1) := by decide +kernel
theorem dX7_count_100 : decode cX7_count 100 = .ok (.aload_n 0, 1) := by decide +kernel
theorem dX7_count_101 : decode cX7_count 101 = .ok (.getfield 12, 3) := by decide +kernel
theorem dX7_count_104 : decode cX7_count 104 = .ok (.getfield 286, 3) := by decide +kernel
theorem dX7_count_107 : decode cX7_count 107 = .ok (.iconst 3, 1) := by decide +kernel
theorem dX7_count_108 : decode cX7_count 108 = .ok (.invokevirtual 356, 3) := by decide +kernel
theorem dX7_count_111 : decode cX7_count 111 = .ok (.ireturn, 1) := by decide +kernel
theorem dX7_count_112 : decode cX7_count 112 = .ok (.aload_n 0, 1) := by decide +kernel
theorem dX7_count_113 : decode cX7_count 113 = .ok (.getfield 12, 3) := by decide +kernel
theorem dX7_count_116 : decode cX7_count 116 = .ok (.getfield 301, 3) := by decide +kernel
theorem dX7_count_119 : decode cX7_count 119 = .ok (.getfield 229, 3) := by decide +kernel
theorem dX7_count_122 : decode cX7_count 122 = .ok (.ireturn, 1) := by decide +kernel
theorem dX7_count_123 : decode cX7_count 123 = .ok (.aload_n 0, 1) := by decide +kernel
theorem dX7_count_124 : decode cX7_count 124 = .ok (.getfield 12, 3) := by decide +kernel
theorem dX7_count_127 : decode cX7_count 127 = .ok (.getfield 169, 3) := by decide +kernel
theorem dX7_count_130 : decode cX7_count 130 = .ok (.getfield 173, 3) := by decide +kernel
theorem dX7_count_133 : decode cX7_count 133 = .ok (.ireturn, 1) := by decide +kernel
theorem dX7_count_134 : decode cX7_count 134 = .ok (.aload_n 0, 1) := by decide +kernel
theorem dX7_count_135 : decode cX7_count 135 = .ok (.getfield 12, 3) := by decide +kernel
theorem dX7_count_138 : decode cX7_count 138 = .ok (.getfield 349, 3) := by decide +kernel
theorem dX7_count_141 : decode cX7_count 141 = .ok (.getfield 229, 3) := by decide +kernel
theorem dX7_count_144 : decode cX7_count 144 = .ok (.ireturn, 1) := by decide +kernel
theorem dX7_count_145 : decode cX7_count 145 = .ok (.aload_n 0, 1) := by decide +kernel
theorem dX7_count_146 : decode cX7_count 146 = .ok (.getfield 26, 3) := by decide +kernel
theorem dX7_count_149 : decode cX7_count 149 = .ok (.getfield 320, 3) := by decide +kernel
theorem dX7_count_152 : decode cX7_count 152 = .ok (.ireturn, 1) := by decide +kernel
theorem dX7_count_153 : decode cX7_count 153 = .ok (.aload_n 0, 1) := by decide +kernel
theorem dX7_count_154 : decode cX7_count 154 = .ok (.getfield 12, 3) := by decide +kernel
theorem dX7_count_157 : decode cX7_count 157 = .ok (.getfield 126, 3) := by decide +kernel
theorem dX7_count_160 : decode cX7_count 160 = .ok (.iconst 3, 1) := by decide +kernel
theorem dX7_count_161 : decode cX7_count 161 = .ok (.invokevirtual 356, 3) := by decide +kernel
theorem dX7_count_164 : decode cX7_count 164 = .ok (.ireturn, 1) := by decide +kernel
theorem dX7_count_165 : decode cX7_count 165 = .ok (.aload_n 0, 1) := by decide +kernel
theorem dX7_count_166 : decode cX7_count 166 = .ok (.ldc 67, 2) := by decide +kernel
theorem dX7_count_168 : decode cX7_count 168 = .ok (.invokevirtual 68, 3) := by decide +kernel
theorem dX7_count_171 : decode cX7_count 171 = .ok (.ireturn, 1) := by decide +kernel
theorem dX7_told_0 : decode cX7_told 0 = .ok (.iload_n 1, 1) := by decide +kernel
theorem dX7_told_1 : decode cX7_told 1 = .ok (.iconst 1, 1) := by decide +kernel
theorem dX7_told_2 : decode cX7_told 2 = .ok (.bipush 6, 2) := by decide +kernel
theorem dX7_told_4 : decode cX7_told 4 = .ok (.invokestatic 57, 3) := by decide +kernel
theorem dX7_told_7 : decode cX7_told 7 = .ok (.ifCond .eq 12, 3) := by decide +kernel
theorem dX7_told_10 : decode cX7_told 10 = .ok (.aload_n 0, 1) := by decide +kernel
theorem dX7_told_11 : decode cX7_told 11 = .ok (.ldc 67, 2) := by decide +kernel
theorem dX7_told_13 : decode cX7_told 13 = .ok (.invokevirtual 68, 3) := by decide +kernel
theorem dX7_told_16 : decode cX7_told 16 = .ok (.goto 9, 3) := by decide +kernel
theorem dX7_told_19 : decode cX7_told 19 = .ok (.aload_n 0, 1) := by decide +kernel
theorem dX7_told_20 : decode cX7_told 20 = .ok (.getfield 36, 3) := by decide +kernel
theorem dX7_told_23 : decode cX7_told 23 = .ok (.iload_n 1, 1) := by decide +kernel
theorem dX7_told_24 : decode cX7_told 24 = .ok (.iaload, 1) := by decide +kernel
theorem dX7_told_25 : decode cX7_told 25 = .ok (.ireturn, 1) := by decide +kernel
theorem dX7_fails_0 : decode cX7_fails 0 = .ok (.ldc_w 359, 3) := by decide +kernel
theorem dX7_fails_3 : decode cX7_fails 3 = .ok (.iload_n 1, 1) := by decide +kernel
theorem dX7_fails_4 : decode cX7_fails 4 = .ok (.isub, 1) := by decide +kernel
theorem dX7_fails_5 : decode cX7_fails 5 = .ok (.istore_n 2, 1) := by decide +kernel
theorem dX7_fails_6 : decode cX7_fails 6 = .ok (.iload_n 2, 1) := by decide +kernel
theorem dX7_fails_7 : decode cX7_fails 7 = .ok (.iconst 1, 1) := by decide +kernel
theorem dX7_fails_8 : decode cX7_fails 8 = .ok (.bipush 6, 2) := by decide +kernel
theorem dX7_fails_10 : decode cX7_fails 10 = .ok (.invokestatic 57, 3) := by decide +kernel
theorem dX7_fails_13 : decode cX7_fails 13 = .ok (.ifCond .ne 13, 3) := by decide +kernel
theorem dX7_fails_16 : decode cX7_fails 16 = .ok (.aload_n 0, 1) := by decide +kernel
theorem dX7_fails_17 : decode cX7_fails 17 = .ok (.getfield 36, 3) := by decide +kernel
theorem dX7_fails_20 : decode cX7_fails 20 = .ok (.iload_n 2, 1) := by decide +kernel
theorem dX7_fails_21 : decode cX7_fails 21 = .ok (.dup2, 1) := by decide +kernel
theorem dX7_fails_22 : decode cX7_fails 22 = .ok (.iaload, 1) := by decide +kernel
theorem dX7_fails_23 : decode cX7_fails 23 = .ok (.iconst 1, 1) := by decide +kernel
theorem dX7_fails_24 : decode cX7_fails 24 = .ok (.iadd, 1) := by decide +kernel
theorem dX7_fails_25 : decode cX7_fails 25 = .ok (.iastore, 1) := by decide +kernel
theorem dX7_fails_26 : decode cX7_fails 26 = .ok (.iload_n 1, 1) := by decide +kernel
theorem dX7_fails_27 : decode cX7_fails 27 = .ok (.ireturn, 1) := by decide +kernel
theorem dX7_outside_0 : decode cX7_outside 0 = .ok (.iload_n 0, 1) := by decide +kernel
theorem dX7_outside_1 : decode cX7_outside 1 = .ok (.iload_n 1, 1) := by decide +kernel
theorem dX7_outside_2 : decode cX7_outside 2 = .ok (.if_icmp .lt 8, 3) := by decide +kernel
theorem dX7_outside_5 : decode cX7_outside 5 = .ok (.iload_n 0, 1) := by decide +kernel
theorem dX7_outside_6 : decode cX7_outside 6 = .ok (.iload_n 2, 1) := by decide +kernel
theorem dX7_outside_7 : decode cX7_outside 7 = .ok (.if_icmp .le 7, 3) := by decide +kernel
theorem dX7_outside_10 : decode cX7_outside 10 = .ok (.iconst 1, 1) := by decide +kernel
theorem dX7_outside_11 : decode cX7_outside 11 = .ok (.goto 4, 3) := by decide +kernel
theorem dX7_outside_14 : decode cX7_outside 14 = .ok (.iconst 0, 1) := by decide +kernel
theorem dX7_outside_15 : decode cX7_outside 15 = .ok (.ireturn, 1) := by decide +kernel
theorem dX7_isFactor_0 : decode cX7_isFactor 0 = .ok (.iload_n 0, 1) := by decide +kernel
theorem dX7_isFactor_1 : decode cX7_isFactor 1 = .ok (.iconst 1, 1) := by decide +kernel
theorem dX7_isFactor_2 : decode cX7_isFactor 2 = .ok (.iconst 5, 1) := by decide +kernel
theorem dX7_isFactor_3 : decode cX7_isFactor 3 = .ok (.invokestatic 57, 3) := by decide +kernel
theorem dX7_isFactor_6 : decode cX7_isFactor 6 = .ok (.ifCond .ne 7, 3) := by decide +kernel
theorem dX7_isFactor_9 : decode cX7_isFactor 9 = .ok (.iconst 1, 1) := by decide +kernel
theorem dX7_isFactor_10 : decode cX7_isFactor 10 = .ok (.goto 4, 3) := by decide +kernel
theorem dX7_isFactor_13 : decode cX7_isFactor 13 = .ok (.iconst 0, 1) := by decide +kernel
theorem dX7_isFactor_14 : decode cX7_isFactor 14 = .ok (.ireturn, 1) := by decide +kernel
theorem dX7_isLength_0 : decode cX7_isLength 0 = .ok (.iload_n 0, 1) := by decide +kernel
theorem dX7_isLength_1 : decode cX7_isLength 1 = .ok (.iconst 3, 1) := by decide +kernel
theorem dX7_isLength_2 : decode cX7_isLength 2 = .ok (.bipush 24, 2) := by decide +kernel
theorem dX7_isLength_4 : decode cX7_isLength 4 = .ok (.invokestatic 57, 3) := by decide +kernel
theorem dX7_isLength_7 : decode cX7_isLength 7 = .ok (.ifCond .ne 7, 3) := by decide +kernel
theorem dX7_isLength_10 : decode cX7_isLength 10 = .ok (.iconst 1, 1) := by decide +kernel
theorem dX7_isLength_11 : decode cX7_isLength 11 = .ok (.goto 4, 3) := by decide +kernel
theorem dX7_isLength_14 : decode cX7_isLength 14 = .ok (.iconst 0, 1) := by decide +kernel
theorem dX7_isLength_15 : decode cX7_isLength 15 = .ok (.ireturn, 1) := by decide +kernel
theorem dX7_isHouse_0 : decode cX7_isHouse 0 = .ok (.iload_n 0, 1) := by decide +kernel
theorem dX7_isHouse_1 : decode cX7_isHouse 1 = .ok (.iconst 0, 1) := by decide +kernel
theorem dX7_isHouse_2 : decode cX7_isHouse 2 = .ok (.bipush 7, 2) := by decide +kernel
theorem dX7_isHouse_4 : decode cX7_isHouse 4 = .ok (.invokestatic 57, 3) := by decide +kernel
theorem dX7_isHouse_7 : decode cX7_isHouse 7 = .ok (.ifCond .ne 7, 3) := by decide +kernel
theorem dX7_isHouse_10 : decode cX7_isHouse 10 = .ok (.iconst 1, 1) := by decide +kernel
theorem dX7_isHouse_11 : decode cX7_isHouse 11 = .ok (.goto 4, 3) := by decide +kernel
theorem dX7_isHouse_14 : decode cX7_isHouse 14 = .ok (.iconst 0, 1) := by decide +kernel
theorem dX7_isHouse_15 : decode cX7_isHouse 15 = .ok (.ireturn, 1) := by decide +kernel
theorem dX7_isUse_0 : decode cX7_isUse 0 = .ok (.iload_n 0, 1) := by decide +kernel
theorem dX7_isUse_1 : decode cX7_isUse 1 = .ok (.iconst 0, 1) := by decide +kernel
theorem dX7_isUse_2 : decode cX7_isUse 2 = .ok (.iconst 2, 1) := by decide +kernel
theorem dX7_isUse_3 : decode cX7_isUse 3 = .ok (.invokestatic 57, 3) := by decide +kernel
theorem dX7_isUse_6 : decode cX7_isUse 6 = .ok (.ifCond .ne 7, 3) := by decide +kernel
theorem dX7_isUse_9 : decode cX7_isUse 9 = .ok (.iconst 1, 1) := by decide +kernel
theorem dX7_isUse_10 : decode cX7_isUse 10 = .ok (.goto 4, 3) := by decide +kernel
theorem dX7_isUse_13 : decode cX7_isUse 13 = .ok (.iconst 0, 1) := by decide +kernel
theorem dX7_isUse_14 : decode cX7_isUse 14 = .ok (.ireturn, 1) := by decide +kernel
theorem dX7_areAmong_0 : decode cX7_areAmong 0 = .ok (.iload_n 0, 1) := by decide +kernel
theorem dX7_areAmong_1 : decode cX7_areAmong 1 = .ok (.iconst 1, 1) := by decide +kernel
theorem dX7_areAmong_2 : decode cX7_areAmong 2 = .ok (.iload_n 1, 1) := by decide +kernel
theorem dX7_areAmong_3 : decode cX7_areAmong 3 = .ok (.ishl, 1) := by decide +kernel
theorem dX7_areAmong_4 : decode cX7_areAmong 4 = .ok (.iconst 1, 1) := by decide +kernel
theorem dX7_areAmong_5 : decode cX7_areAmong 5 = .ok (.isub, 1) := by decide +kernel
theorem dX7_areAmong_6 : decode cX7_areAmong 6 = .ok (.iconst (-1), 1) := by decide +kernel
theorem dX7_areAmong_7 : decode cX7_areAmong 7 = .ok (.ixor, 1) := by decide +kernel
theorem dX7_areAmong_8 : decode cX7_areAmong 8 = .ok (.iand, 1) := by decide +kernel
theorem dX7_areAmong_9 : decode cX7_areAmong 9 = .ok (.ifCond .ne 7, 3) := by decide +kernel
theorem dX7_areAmong_12 : decode cX7_areAmong 12 = .ok (.iconst 1, 1) := by decide +kernel
theorem dX7_areAmong_13 : decode cX7_areAmong 13 = .ok (.goto 4, 3) := by decide +kernel
theorem dX7_areAmong_16 : decode cX7_areAmong 16 = .ok (.iconst 0, 1) := by decide +kernel
theorem dX7_areAmong_17 : decode cX7_areAmong 17 = .ok (.ireturn, 1) := by decide +kernel
theorem dX7_isPlace_0 : decode cX7_isPlace 0 = .ok (.iload_n 1, 1) := by decide +kernel
theorem dX7_isPlace_1 : decode cX7_isPlace 1 = .ok (.ifCond .lt 32, 3) := by decide +kernel
theorem dX7_isPlace_4 : decode cX7_isPlace 4 = .ok (.aload_n 0, 1) := by decide +kernel
theorem dX7_isPlace_5 : decode cX7_isPlace 5 = .ok (.getfield 12, 3) := by decide +kernel
theorem dX7_isPlace_8 : decode cX7_isPlace 8 = .ok (.getfield 89, 3) := by decide +kernel
theorem dX7_isPlace_11 : decode cX7_isPlace 11 = .ok (.iload_n 1, 1) := by decide +kernel
theorem dX7_isPlace_12 : decode cX7_isPlace 12 = .ok (.bipush 10, 2) := by decide +kernel
theorem dX7_isPlace_14 : decode cX7_isPlace 14 = .ok (.idiv, 1) := by decide +kernel
theorem dX7_isPlace_15 : decode cX7_isPlace 15 = .ok (.invokevirtual 101, 3) := by decide +kernel
theorem dX7_isPlace_18 : decode cX7_isPlace 18 = .ok (.ifCond .eq 15, 3) := by decide +kernel
theorem dX7_isPlace_21 : decode cX7_isPlace 21 = .ok (.iload_n 1, 1) := by decide +kernel
theorem dX7_isPlace_22 : decode cX7_isPlace 22 = .ok (.bipush 10, 2) := by decide +kernel
theorem dX7_isPlace_24 : decode cX7_isPlace 24 = .ok (.irem, 1) := by decide +kernel
theorem dX7_isPlace_25 : decode cX7_isPlace 25 = .ok (.iconst 3, 1) := by decide +kernel
theorem dX7_isPlace_26 : decode cX7_isPlace 26 = .ok (.if_icmp .gt 7, 3) := by decide +kernel
theorem dX7_isPlace_29 : decode cX7_isPlace 29 = .ok (.iconst 1, 1) := by decide +kernel
theorem dX7_isPlace_30 : decode cX7_isPlace 30 = .ok (.goto 4, 3) := by decide +kernel
theorem dX7_isPlace_33 : decode cX7_isPlace 33 = .ok (.iconst 0, 1) := by decide +kernel
theorem dX7_isPlace_34 : decode cX7_isPlace 34 = .ok (.ireturn, 1) := by decide +kernel
theorem dX7_areTwo_0 : decode cX7_areTwo 0 = .ok (.aload_n 0, 1) := by decide +kernel
theorem dX7_areTwo_1 : decode cX7_areTwo 1 = .ok (.getfield 12, 3) := by decide +kernel
theorem dX7_areTwo_4 : decode cX7_areTwo 4 = .ok (.getfield 126, 3) := by decide +kernel
theorem dX7_areTwo_7 : decode cX7_areTwo 7 = .ok (.iload_n 1, 1) := by decide +kernel
theorem dX7_areTwo_8 : decode cX7_areTwo 8 = .ok (.invokevirtual 101, 3) := by decide +kernel
theorem dX7_areTwo_11 : decode cX7_areTwo 11 = .ok (.ifCond .eq 26, 3) := by decide +kernel
theorem dX7_areTwo_14 : decode cX7_areTwo 14 = .ok (.aload_n 0, 1) := by decide +kernel
theorem dX7_areTwo_15 : decode cX7_areTwo 15 = .ok (.getfield 12, 3) := by decide +kernel
theorem dX7_areTwo_18 : decode cX7_areTwo 18 = .ok (.getfield 126, 3) := by decide +kernel
theorem dX7_areTwo_21 : decode cX7_areTwo 21 = .ok (.iload_n 2, 1) := by decide +kernel
theorem dX7_areTwo_22 : decode cX7_areTwo 22 = .ok (.invokevirtual 101, 3) := by decide +kernel
theorem dX7_areTwo_25 : decode cX7_areTwo 25 = .ok (.ifCond .eq 12, 3) := by decide +kernel
theorem dX7_areTwo_28 : decode cX7_areTwo 28 = .ok (.iload_n 1, 1) := by decide +kernel
theorem dX7_areTwo_29 : decode cX7_areTwo 29 = .ok (.iload_n 2, 1) := by decide +kernel
theorem dX7_areTwo_30 : decode cX7_areTwo 30 = .ok (.if_icmp .eq 7, 3) := by decide +kernel
theorem dX7_areTwo_33 : decode cX7_areTwo 33 = .ok (.iconst 1, 1) := by decide +kernel
theorem dX7_areTwo_34 : decode cX7_areTwo 34 = .ok (.goto 4, 3) := by decide +kernel
theorem dX7_areTwo_37 : decode cX7_areTwo 37 = .ok (.iconst 0, 1) := by decide +kernel
theorem dX7_areTwo_38 : decode cX7_areTwo 38 = .ok (.ireturn, 1) := by decide +kernel
theorem dX7_arePoints_0 : decode cX7_arePoints 0 = .ok (.iconst 0, 1) := by decide +kernel
theorem dX7_arePoints_1 : decode cX7_arePoints 1 = .ok (.istore_n 3, 1) := by decide +kernel
theorem dX7_arePoints_2 : decode cX7_arePoints 2 = .ok (.iload_n 3, 1) := by decide +kernel
theorem dX7_arePoints_3 : decode cX7_arePoints 3 = .ok (.iload_n 2, 1) := by decide +kernel
theorem dX7_arePoints_4 : decode cX7_arePoints 4 = .ok (.if_icmp .ge 29, 3) := by decide +kernel
theorem dX7_arePoints_7 : decode cX7_arePoints 7 = .ok (.aload_n 0, 1) := by decide +kernel
theorem dX7_arePoints_8 : decode cX7_arePoints 8 = .ok (.iload_n 1, 1) := by decide +kernel
theorem dX7_arePoints_9 : decode cX7_arePoints 9 = .ok (.iload_n 3, 1) := by decide +kernel
theorem dX7_arePoints_10 : decode cX7_arePoints 10 = .ok (.iadd, 1) := by decide +kernel
theorem dX7_arePoints_11 : decode cX7_arePoints 11 = .ok (.invokevirtual 133, 3) := by decide +kernel
theorem dX7_arePoints_14 : decode cX7_arePoints 14 = .ok (.ldc_w 360, 3) := by decide +kernel
theorem dX7_arePoints_17 : decode cX7_arePoints 17 = .ok (.ldc 240, 2) := by decide +kernel
theorem dX7_arePoints_19 : decode cX7_arePoints 19 = .ok (.invokestatic 57, 3) := by decide +kernel
theorem dX7_arePoints_22 : decode cX7_arePoints 22 = .ok (.ifCond .eq 5, 3) := by decide +kernel
theorem dX7_arePoints_25 : decode cX7_arePoints 25 = .ok (.iconst 0, 1) := by decide +kernel
theorem dX7_arePoints_26 : decode cX7_arePoints 26 = .ok (.ireturn, 1) := by decide +kernel
theorem dX7_arePoints_27 : decode cX7_arePoints 27 = .ok (.iinc 3 1, 3) := by decide +kernel
theorem dX7_arePoints_30 : decode cX7_arePoints 30 = .ok (.goto (-28), 3) := by decide +kernel
theorem dX7_arePoints_33 : decode cX7_arePoints 33 = .ok (.iconst 1, 1) := by decide +kernel
theorem dX7_arePoints_34 : decode cX7_arePoints 34 = .ok (.ireturn, 1) := by decide +kernel
theorem dX7_held_0 : decode cX7_held 0 = .ok (.ldc2_w 361, 3) := by decide +kernel
theorem dX7_held_3 : decode cX7_held 3 = .ok (.ldc2_w 363, 3) := by decide +kernel
theorem dX7_held_6 : decode cX7_held 6 = .ok (.lload_n 0, 1) := by decide +kernel
theorem dX7_held_7 : decode cX7_held 7 = .ok (.invokestatic 253, 3) := by decide +kernel
theorem dX7_held_10 : decode cX7_held 10 = .ok (.invokestatic 248, 3) := by decide +kernel
theorem dX7_held_13 : decode cX7_held 13 = .ok (.l2i, 1) := by decide +kernel
theorem dX7_held_14 : decode cX7_held 14 = .ok (.ireturn, 1) := by decide +kernel
theorem dX7_lowestBit_0 : decode cX7_lowestBit 0 = .ok (.iconst 0, 1) := by decide +kernel
theorem dX7_lowestBit_1 : decode cX7_lowestBit 1 = .ok (.istore_n 1, 1) := by decide +kernel
theorem dX7_lowestBit_2 : decode cX7_lowestBit 2 = .ok (.iload_n 1, 1) := by decide +kernel
theorem dX7_lowestBit_3 : decode cX7_lowestBit 3 = .ok (.bipush 32, 2) := by decide +kernel
theorem dX7_lowestBit_5 : decode cX7_lowestBit 5 = .ok (.if_icmp .ge 20, 3) := by decide +kernel
theorem dX7_lowestBit_8 : decode cX7_lowestBit 8 = .ok (.iload_n 0, 1) := by decide +kernel
theorem dX7_lowestBit_9 : decode cX7_lowestBit 9 = .ok (.iload_n 1, 1) := by decide +kernel
theorem dX7_lowestBit_10 : decode cX7_lowestBit 10 = .ok (.ishr, 1) := by decide +kernel
theorem dX7_lowestBit_11 : decode cX7_lowestBit 11 = .ok (.iconst 1, 1) := by decide +kernel
theorem dX7_lowestBit_12 : decode cX7_lowestBit 12 = .ok (.iand, 1) := by decide +kernel
theorem dX7_lowestBit_13 : decode cX7_lowestBit 13 = .ok (.iconst 1, 1) := by decide +kernel
theorem dX7_lowestBit_14 : decode cX7_lowestBit 14 = .ok (.if_icmp .ne 5, 3) := by decide +kernel
theorem dX7_lowestBit_17 : decode cX7_lowestBit 17 = .ok (.iload_n 1, 1) := by decide +kernel
theorem dX7_lowestBit_18 : decode cX7_lowestBit 18 = .ok (.ireturn, 1) := by decide +kernel
theorem dX7_lowestBit_19 : decode cX7_lowestBit 19 = .ok (.iinc 1 1, 3) := by decide +kernel
theorem dX7_lowestBit_22 : decode cX7_lowestBit 22 = .ok (.goto (-20), 3) := by decide +kernel
theorem dX7_lowestBit_25 : decode cX7_lowestBit 25 = .ok (.iconst (-1), 1) := by decide +kernel
theorem dX7_lowestBit_26 : decode cX7_lowestBit 26 = .ok (.ireturn, 1) := by decide +kernel
theorem dX7_firstWrong_0 : decode cX7_firstWrong 0 = .ok (.iconst 0, 1) := by decide +kernel
theorem dX7_firstWrong_1 : decode cX7_firstWrong 1 = .ok (.istore_n 2, 1) := by decide +kernel
theorem dX7_firstWrong_2 : decode cX7_firstWrong 2 = .ok (.iload_n 2, 1) := by decide +kernel
theorem dX7_firstWrong_3 : decode cX7_firstWrong 3 = .ok (.aload_n 0, 1) := by decide +kernel
theorem dX7_firstWrong_4 : decode cX7_firstWrong 4 = .ok (.getfield 12, 3) := by decide +kernel
theorem dX7_firstWrong_7 : decode cX7_firstWrong 7 = .ok (.getfield 349, 3) := by decide +kernel
theorem dX7_firstWrong_10 : decode cX7_firstWrong 10 = .ok (.getfield 229, 3) := by decide +kernel
theorem dX7_firstWrong_13 : decode cX7_firstWrong 13 = .ok (.if_icmp .ge 54, 3) := by decide +kernel
theorem dX7_firstWrong_16 : decode cX7_firstWrong 16 = .ok (.aload_n 0, 1) := by decide +kernel
theorem dX7_firstWrong_17 : decode cX7_firstWrong 17 = .ok (.getfield 12, 3) := by decide +kernel
theorem dX7_firstWrong_20 : decode cX7_firstWrong 20 = .ok (.getfield 126, 3) := by decide +kernel
theorem dX7_firstWrong_23 : decode cX7_firstWrong 23 = .ok (.iload_n 2, 1) := by decide +kernel
theorem dX7_firstWrong_24 : decode cX7_firstWrong 24 = .ok (.invokevirtual 101, 3) := by decide +kernel
theorem dX7_firstWrong_27 : decode cX7_firstWrong 27 = .ok (.ifCond .eq 30, 3) := by decide +kernel
theorem dX7_firstWrong_30 : decode cX7_firstWrong 30 = .ok (.aload_n 0, 1) := by decide +kernel
theorem dX7_firstWrong_31 : decode cX7_firstWrong 31 = .ok (.getfield 12, 3) := by decide +kernel
theorem dX7_firstWrong_34 : decode cX7_firstWrong 34 = .ok (.getfield 349, 3) := by decide +kernel
theorem dX7_firstWrong_37 : decode cX7_firstWrong 37 = .ok (.iload_n 2, 1) := by decide +kernel
theorem dX7_firstWrong_38 : decode cX7_firstWrong 38 = .ok (.iconst 0, 1) := by decide +kernel
theorem dX7_firstWrong_39 : decode cX7_firstWrong 39 = .ok (.invokevirtual 76, 3) := by decide +kernel
theorem dX7_firstWrong_42 : decode cX7_firstWrong 42 = .ok (.aload_n 0, 1) := by decide +kernel
theorem dX7_firstWrong_43 : decode cX7_firstWrong 43 = .ok (.getfield 12, 3) := by decide +kernel
theorem dX7_firstWrong_46 : decode cX7_firstWrong 46 = .ok (.iload_n 2, 1) := by decide +kernel
theorem dX7_firstWrong_47 : decode cX7_firstWrong 47 = .ok (.iload_n 1, 1) := by decide +kernel
theorem dX7_firstWrong_48 : decode cX7_firstWrong 48 = .ok (.invokestatic 261, 3) := by decide +kernel
theorem dX7_firstWrong_51 : decode cX7_firstWrong 51 = .ok (.invokestatic 365, 3) := by decide +kernel
theorem dX7_firstWrong_54 : decode cX7_firstWrong 54 = .ok (.if_icmp .eq 7, 3) := by decide +kernel
theorem dX7_firstWrong_57 : decode cX7_firstWrong 57 = .ok (.iconst 1, 1) := by decide +kernel
theorem dX7_firstWrong_58 : decode cX7_firstWrong 58 = .ok (.iload_n 2, 1) := by decide +kernel
theorem dX7_firstWrong_59 : decode cX7_firstWrong 59 = .ok (.iadd, 1) := by decide +kernel
theorem dX7_firstWrong_60 : decode cX7_firstWrong 60 = .ok (.ireturn, 1) := by decide +kernel
theorem dX7_firstWrong_61 : decode cX7_firstWrong 61 = .ok (.iinc 2 1, 3) := by decide +kernel
theorem dX7_firstWrong_64 : decode cX7_firstWrong 64 = .ok (.goto (-62), 3) := by decide +kernel
theorem dX7_firstWrong_67 : decode cX7_firstWrong 67 = .ok (.iconst 0, 1) := by decide +kernel
theorem dX7_firstWrong_68 : decode cX7_firstWrong 68 = .ok (.ireturn, 1) := by decide +kernel
theorem dX7_worth_0 : decode cX7_worth 0 = .ok (.aload_n 0, 1) := by decide +kernel
theorem dX7_worth_1 : decode cX7_worth 1 = .ok (.getfield 12, 3) := by decide +kernel
theorem dX7_worth_4 : decode cX7_worth 4 = .ok (.getfield 191, 3) := by decide +kernel
theorem dX7_worth_7 : decode cX7_worth 7 = .ok (.iload_n 1, 1) := by decide +kernel
theorem dX7_worth_8 : decode cX7_worth 8 = .ok (.aaload, 1) := by decide +kernel
theorem dX7_worth_9 : decode cX7_worth 9 = .ok (.astore 5, 2) := by decide +kernel
theorem dX7_worth_11 : decode cX7_worth 11 = .ok (.aload 5, 2) := by decide +kernel
theorem dX7_worth_13 : decode cX7_worth 13 = .ok (.getfield 173, 3) := by decide +kernel
theorem dX7_worth_16 : decode cX7_worth 16 = .ok (.ifCond .le 18, 3) := by decide +kernel
theorem dX7_worth_19 : decode cX7_worth 19 = .ok (.aload_n 0, 1) := by decide +kernel
theorem dX7_worth_20 : decode cX7_worth 20 = .ok (.getfield 19, 3) := by decide +kernel
theorem dX7_worth_23 : decode cX7_worth 23 = .ok (.aload 5, 2) := by decide +kernel
theorem dX7_worth_25 : decode cX7_worth 25 = .ok (.iload_n 1, 1) := by decide +kernel
theorem dX7_worth_26 : decode cX7_worth 26 = .ok (.iload_n 2, 1) := by decide +kernel
theorem dX7_worth_27 : decode cX7_worth 27 = .ok (.iload_n 3, 1) := by decide +kernel
theorem dX7_worth_28 : decode cX7_worth 28 = .ok (.iload 4, 2) := by decide +kernel
theorem dX7_worth_30 : decode cX7_worth 30 = .ok (.invokevirtual 183, 3) := by decide +kernel
theorem dX7_worth_33 : decode cX7_worth 33 = .ok (.ireturn, 1) := by decide +kernel
theorem dX7_worth_34 : decode cX7_worth 34 = .ok (.iload_n 1, 1) := by decide +kernel
theorem dX7_worth_35 : decode cX7_worth 35 = .ok (.lookupswitch 45 #[(0, 25), (1, 30)], 25) := by decide +kernel
theorem dX7_worth_60 : decode cX7_worth 60 = .ok (.bipush 10, 2) := by decide +kernel
theorem dX7_worth_62 : decode cX7_worth 62 = .ok (.iload_n 2, 1) := by decide +kernel
theorem dX7_worth_63 : decode cX7_worth 63 = .ok (.imul, 1) := by decide +kernel
theorem dX7_worth_64 : decode cX7_worth 64 = .ok (.ireturn, 1) := by decide +kernel
theorem dX7_worth_65 : decode cX7_worth 65 = .ok (.iload_n 3, 1) := by decide +kernel
theorem dX7_worth_66 : decode cX7_worth 66 = .ok (.bipush 30, 2) := by decide +kernel
theorem dX7_worth_68 : decode cX7_worth 68 = .ok (.irem, 1) := by decide +kernel
theorem dX7_worth_69 : decode cX7_worth 69 = .ok (.bipush 7, 2) := by decide +kernel
theorem dX7_worth_71 : decode cX7_worth 71 = .ok (.if_icmp .ne 7, 3) := by decide +kernel
theorem dX7_worth_74 : decode cX7_worth 74 = .ok (.iconst 1, 1) := by decide +kernel
theorem dX7_worth_75 : decode cX7_worth 75 = .ok (.goto 4, 3) := by decide +kernel
theorem dX7_worth_78 : decode cX7_worth 78 = .ok (.iconst 0, 1) := by decide +kernel
theorem dX7_worth_79 : decode cX7_worth 79 = .ok (.ireturn, 1) := by decide +kernel
theorem dX7_worth_80 : decode cX7_worth 80 = .ok (.iconst 1, 1) := by decide +kernel
theorem dX7_worth_81 : decode cX7_worth 81 = .ok (.ireturn, 1) := by decide +kernel
theorem dX7_lawAt_0 : decode cX7_lawAt 0 = .ok (.aload_n 0, 1) := by decide +kernel
theorem dX7_lawAt_1 : decode cX7_lawAt 1 = .ok (.iconst 0, 1) := by decide +kernel
theorem dX7_lawAt_2 : decode cX7_lawAt 2 = .ok (.iload_n 2, 1) := by decide +kernel
theorem dX7_lawAt_3 : decode cX7_lawAt 3 = .ok (.aload_n 0, 1) := by decide +kernel
theorem dX7_lawAt_4 : decode cX7_lawAt 4 = .ok (.getfield 12, 3) := by decide +kernel
theorem dX7_lawAt_7 : decode cX7_lawAt 7 = .ok (.getfield 126, 3) := by decide +kernel
theorem dX7_lawAt_10 : decode cX7_lawAt 10 = .ok (.iload_n 1, 1) := by decide +kernel
theorem dX7_lawAt_11 : decode cX7_lawAt 11 = .ok (.iconst 2, 1) := by decide +kernel
theorem dX7_lawAt_12 : decode cX7_lawAt 12 = .ok (.invokevirtual 76, 3) := by decide +kernel
theorem dX7_lawAt_15 : decode cX7_lawAt 15 = .ok (.aload_n 0, 1) := by decide +kernel
theorem dX7_lawAt_16 : decode cX7_lawAt 16 = .ok (.getfield 12, 3) := by decide +kernel
theorem dX7_lawAt_19 : decode cX7_lawAt 19 = .ok (.iload_n 1, 1) := by decide +kernel
theorem dX7_lawAt_20 : decode cX7_lawAt 20 = .ok (.invokevirtual 368, 3) := by decide +kernel
theorem dX7_lawAt_23 : decode cX7_lawAt 23 = .ok (.invokevirtual 207, 3) := by decide +kernel
theorem dX7_lawAt_26 : decode cX7_lawAt 26 = .ok (.i2l, 1) := by decide +kernel
theorem dX7_lawAt_27 : decode cX7_lawAt 27 = .ok (.lreturn, 1) := by decide +kernel
theorem dX7_signOf_0 : decode cX7_signOf 0 = .ok (.aload_n 0, 1) := by decide +kernel
theorem dX7_signOf_1 : decode cX7_signOf 1 = .ok (.getfield 12, 3) := by decide +kernel
theorem dX7_signOf_4 : decode cX7_signOf 4 = .ok (.getfield 126, 3) := by decide +kernel
theorem dX7_signOf_7 : decode cX7_signOf 7 = .ok (.iload_n 1, 1) := by decide +kernel
theorem dX7_signOf_8 : decode cX7_signOf 8 = .ok (.iconst 2, 1) := by decide +kernel
theorem dX7_signOf_9 : decode cX7_signOf 9 = .ok (.invokevirtual 76, 3) := by decide +kernel
theorem dX7_signOf_12 : decode cX7_signOf 12 = .ok (.istore_n 2, 1) := by decide +kernel
theorem dX7_signOf_13 : decode cX7_signOf 13 = .ok (.aload_n 0, 1) := by decide +kernel
theorem dX7_signOf_14 : decode cX7_signOf 14 = .ok (.iconst 1, 1) := by decide +kernel
theorem dX7_signOf_15 : decode cX7_signOf 15 = .ok (.iload_n 2, 1) := by decide +kernel
theorem dX7_signOf_16 : decode cX7_signOf 16 = .ok (.aload_n 0, 1) := by decide +kernel
theorem dX7_signOf_17 : decode cX7_signOf 17 = .ok (.getfield 12, 3) := by decide +kernel
theorem dX7_signOf_20 : decode cX7_signOf 20 = .ok (.iload_n 1, 1) := by decide +kernel
theorem dX7_signOf_21 : decode cX7_signOf 21 = .ok (.invokevirtual 368, 3) := by decide +kernel
theorem dX7_signOf_24 : decode cX7_signOf 24 = .ok (.iconst 0, 1) := by decide +kernel
theorem dX7_signOf_25 : decode cX7_signOf 25 = .ok (.invokevirtual 207, 3) := by decide +kernel
theorem dX7_signOf_28 : decode cX7_signOf 28 = .ok (.ifCond .ne 5, 3) := by decide +kernel
theorem dX7_signOf_31 : decode cX7_signOf 31 = .ok (.iconst 0, 1) := by decide +kernel
theorem dX7_signOf_32 : decode cX7_signOf 32 = .ok (.ireturn, 1) := by decide +kernel
theorem dX7_signOf_33 : decode cX7_signOf 33 = .ok (.aload_n 0, 1) := by decide +kernel
theorem dX7_signOf_34 : decode cX7_signOf 34 = .ok (.getfield 12, 3) := by decide +kernel
theorem dX7_signOf_37 : decode cX7_signOf 37 = .ok (.getfield 72, 3) := by decide +kernel
theorem dX7_signOf_40 : decode cX7_signOf 40 = .ok (.iload_n 2, 1) := by decide +kernel
theorem dX7_signOf_41 : decode cX7_signOf 41 = .ok (.iconst 2, 1) := by decide +kernel
theorem dX7_signOf_42 : decode cX7_signOf 42 = .ok (.invokevirtual 76, 3) := by decide +kernel
theorem dX7_signOf_45 : decode cX7_signOf 45 = .ok (.istore_n 3, 1) := by decide +kernel
theorem dX7_signOf_46 : decode cX7_signOf 46 = .ok (.iconst 1, 1) := by decide +kernel
theorem dX7_signOf_47 : decode cX7_signOf 47 = .ok (.istore 4, 2) := by decide +kernel
theorem dX7_signOf_49 : decode cX7_signOf 49 = .ok (.iload 4, 2) := by decide +kernel
theorem dX7_signOf_51 : decode cX7_signOf 51 = .ok (.aload_n 0, 1) := by decide +kernel
theorem dX7_signOf_52 : decode cX7_signOf 52 = .ok (.getfield 12, 3) := by decide +kernel
theorem dX7_signOf_55 : decode cX7_signOf 55 = .ok (.iload_n 1, 1) := by decide +kernel
theorem dX7_signOf_56 : decode cX7_signOf 56 = .ok (.invokevirtual 163, 3) := by decide +kernel
theorem dX7_signOf_59 : decode cX7_signOf 59 = .ok (.iconst 2, 1) := by decide +kernel
theorem dX7_signOf_60 : decode cX7_signOf 60 = .ok (.isub, 1) := by decide +kernel
theorem dX7_signOf_61 : decode cX7_signOf 61 = .ok (.if_icmp .gt 28, 3) := by decide +kernel
theorem dX7_signOf_64 : decode cX7_signOf 64 = .ok (.aload_n 0, 1) := by decide +kernel
theorem dX7_signOf_65 : decode cX7_signOf 65 = .ok (.getfield 12, 3) := by decide +kernel
theorem dX7_signOf_68 : decode cX7_signOf 68 = .ok (.iload_n 1, 1) := by decide +kernel
theorem dX7_signOf_69 : decode cX7_signOf 69 = .ok (.iload 4, 2) := by decide +kernel
theorem dX7_signOf_71 : decode cX7_signOf 71 = .ok (.invokevirtual 166, 3) := by decide +kernel
theorem dX7_signOf_74 : decode cX7_signOf 74 = .ok (.invokestatic 371, 3) := by decide +kernel
theorem dX7_signOf_77 : decode cX7_signOf 77 = .ok (.iload_n 3, 1) := by decide +kernel
theorem dX7_signOf_78 : decode cX7_signOf 78 = .ok (.if_icmp .le 5, 3) := by decide +kernel
theorem dX7_signOf_81 : decode cX7_signOf 81 = .ok (.iconst 1, 1) := by decide +kernel
theorem dX7_signOf_82 : decode cX7_signOf 82 = .ok (.ireturn, 1) := by decide +kernel
theorem dX7_signOf_83 : decode cX7_signOf 83 = .ok (.iinc 4 1, 3) := by decide +kernel
theorem dX7_signOf_86 : decode cX7_signOf 86 = .ok (.goto (-37), 3) := by decide +kernel
theorem dX7_signOf_89 : decode cX7_signOf 89 = .ok (.iconst 2, 1) := by decide +kernel
theorem dX7_signOf_90 : decode cX7_signOf 90 = .ok (.ireturn, 1) := by decide +kernel
theorem dX7_alikeFrom_0 : decode cX7_alikeFrom 0 = .ok (.aload_n 0, 1) := by decide +kernel
theorem dX7_alikeFrom_1 : decode cX7_alikeFrom 1 = .ok (.getfield 12, 3) := by decide +kernel
theorem dX7_alikeFrom_4 : decode cX7_alikeFrom 4 = .ok (.iload_n 1, 1) := by decide +kernel
theorem dX7_alikeFrom_5 : decode cX7_alikeFrom 5 = .ok (.invokevirtual 163, 3) := by decide +kernel
theorem dX7_alikeFrom_8 : decode cX7_alikeFrom 8 = .ok (.iconst 1, 1) := by decide +kernel
theorem dX7_alikeFrom_9 : decode cX7_alikeFrom 9 = .ok (.isub, 1) := by decide +kernel
theorem dX7_alikeFrom_10 : decode cX7_alikeFrom 10 = .ok (.iload_n 2, 1) := by decide +kernel
theorem dX7_alikeFrom_11 : decode cX7_alikeFrom 11 = .ok (.isub, 1) := by decide +kernel
theorem dX7_alikeFrom_12 : decode cX7_alikeFrom 12 = .ok (.aload_n 0, 1) := by decide +kernel
theorem dX7_alikeFrom_13 : decode cX7_alikeFrom 13 = .ok (.getfield 12, 3) := by decide +kernel
theorem dX7_alikeFrom_16 : decode cX7_alikeFrom 16 = .ok (.iload_n 3, 1) := by decide +kernel
theorem dX7_alikeFrom_17 : decode cX7_alikeFrom 17 = .ok (.invokevirtual 163, 3) := by decide +kernel
theorem dX7_alikeFrom_20 : decode cX7_alikeFrom 20 = .ok (.iconst 1, 1) := by decide +kernel
theorem dX7_alikeFrom_21 : decode cX7_alikeFrom 21 = .ok (.isub, 1) := by decide +kernel
theorem dX7_alikeFrom_22 : decode cX7_alikeFrom 22 = .ok (.iload 4, 2) := by decide +kernel
theorem dX7_alikeFrom_24 : decode cX7_alikeFrom 24 = .ok (.isub, 1) := by decide +kernel
theorem dX7_alikeFrom_25 : decode cX7_alikeFrom 25 = .ok (.invokestatic 232, 3) := by decide +kernel
theorem dX7_alikeFrom_28 : decode cX7_alikeFrom 28 = .ok (.istore 5, 2) := by decide +kernel
theorem dX7_alikeFrom_30 : decode cX7_alikeFrom 30 = .ok (.iconst 0, 1) := by decide +kernel
theorem dX7_alikeFrom_31 : decode cX7_alikeFrom 31 = .ok (.istore 6, 2) := by decide +kernel
theorem dX7_alikeFrom_33 : decode cX7_alikeFrom 33 = .ok (.iload 6, 2) := by decide +kernel
theorem dX7_alikeFrom_35 : decode cX7_alikeFrom 35 = .ok (.iload 5, 2) := by decide +kernel
theorem dX7_alikeFrom_37 : decode cX7_alikeFrom 37 = .ok (.if_icmp .ge 37, 3) := by decide +kernel
theorem dX7_alikeFrom_40 : decode cX7_alikeFrom 40 = .ok (.aload_n 0, 1) := by decide +kernel
theorem dX7_alikeFrom_41 : decode cX7_alikeFrom 41 = .ok (.getfield 12, 3) := by decide +kernel
theorem dX7_alikeFrom_44 : decode cX7_alikeFrom 44 = .ok (.iload_n 1, 1) := by decide +kernel
theorem dX7_alikeFrom_45 : decode cX7_alikeFrom 45 = .ok (.iload_n 2, 1) := by decide +kernel
theorem dX7_alikeFrom_46 : decode cX7_alikeFrom 46 = .ok (.iload 6, 2) := by decide +kernel
theorem dX7_alikeFrom_48 : decode cX7_alikeFrom 48 = .ok (.iadd, 1) := by decide +kernel
theorem dX7_alikeFrom_49 : decode cX7_alikeFrom 49 = .ok (.invokevirtual 166, 3) := by decide +kernel
theorem dX7_alikeFrom_52 : decode cX7_alikeFrom 52 = .ok (.aload_n 0, 1) := by decide +kernel
theorem dX7_alikeFrom_53 : decode cX7_alikeFrom 53 = .ok (.getfield 12, 3) := by decide +kernel
theorem dX7_alikeFrom_56 : decode cX7_alikeFrom 56 = .ok (.iload_n 3, 1) := by decide +kernel
theorem dX7_alikeFrom_57 : decode cX7_alikeFrom 57 = .ok (.iload 4, 2) := by decide +kernel
theorem dX7_alikeFrom_59 : decode cX7_alikeFrom 59 = .ok (.iload 6, 2) := by decide +kernel
theorem dX7_alikeFrom_61 : decode cX7_alikeFrom 61 = .ok (.iadd, 1) := by decide +kernel
theorem dX7_alikeFrom_62 : decode cX7_alikeFrom 62 = .ok (.invokevirtual 166, 3) := by decide +kernel
theorem dX7_alikeFrom_65 : decode cX7_alikeFrom 65 = .ok (.if_icmp .ne 9, 3) := by decide +kernel
theorem dX7_alikeFrom_68 : decode cX7_alikeFrom 68 = .ok (.iinc 6 1, 3) := by decide +kernel
theorem dX7_alikeFrom_71 : decode cX7_alikeFrom 71 = .ok (.goto (-38), 3) := by decide +kernel
theorem dX7_alikeFrom_74 : decode cX7_alikeFrom 74 = .ok (.iload 6, 2) := by decide +kernel
theorem dX7_alikeFrom_76 : decode cX7_alikeFrom 76 = .ok (.ireturn, 1) := by decide +kernel
theorem dX7_findShared_0 : decode cX7_findShared 0 = .ok (.iconst 0, 1) := by decide +kernel
theorem dX7_findShared_1 : decode cX7_findShared 1 = .ok (.istore_n 2, 1) := by decide +kernel
theorem dX7_findShared_2 : decode cX7_findShared 2 = .ok (.iconst 0, 1) := by decide +kernel
theorem dX7_findShared_3 : decode cX7_findShared 3 = .ok (.istore_n 3, 1) := by decide +kernel
theorem dX7_findShared_4 : decode cX7_findShared 4 = .ok (.iload_n 3, 1) := by decide +kernel
theorem dX7_findShared_5 : decode cX7_findShared 5 = .ok (.aload_n 0, 1) := by decide +kernel
theorem dX7_findShared_6 : decode cX7_findShared 6 = .ok (.getfield 12, 3) := by decide +kernel
theorem dX7_findShared_9 : decode cX7_findShared 9 = .ok (.getfield 126, 3) := by decide +kernel
theorem dX7_findShared_12 : decode cX7_findShared 12 = .ok (.getfield 229, 3) := by decide +kernel
theorem dX7_findShared_15 : decode cX7_findShared 15 = .ok (.if_icmp .ge 109, 3) := by decide +kernel
theorem dX7_findShared_18 : decode cX7_findShared 18 = .ok (.iload_n 3, 1) := by decide +kernel
theorem dX7_findShared_19 : decode cX7_findShared 19 = .ok (.aload_n 0, 1) := by decide +kernel
theorem dX7_findShared_20 : decode cX7_findShared 20 = .ok (.getfield 40, 3) := by decide +kernel
theorem dX7_findShared_23 : decode cX7_findShared 23 = .ok (.arraylength, 1) := by decide +kernel
theorem dX7_findShared_24 : decode cX7_findShared 24 = .ok (.if_icmp .ge 100, 3) := by decide +kernel
theorem dX7_findShared_27 : decode cX7_findShared 27 = .ok (.aload_n 0, 1) := by decide +kernel
theorem dX7_findShared_28 : decode cX7_findShared 28 = .ok (.getfield 12, 3) := by decide +kernel
theorem dX7_findShared_31 : decode cX7_findShared 31 = .ok (.iload_n 3, 1) := by decide +kernel
theorem dX7_findShared_32 : decode cX7_findShared 32 = .ok (.iload_n 1, 1) := by decide +kernel
theorem dX7_findShared_33 : decode cX7_findShared 33 = .ok (.invokestatic 261, 3) := by decide +kernel
theorem dX7_findShared_36 : decode cX7_findShared 36 = .ok (.istore 4, 2) := by decide +kernel
theorem dX7_findShared_38 : decode cX7_findShared 38 = .ok (.aload_n 0, 1) := by decide +kernel
theorem dX7_findShared_39 : decode cX7_findShared 39 = .ok (.getfield 40, 3) := by decide +kernel
theorem dX7_findShared_42 : decode cX7_findShared 42 = .ok (.iload_n 3, 1) := by decide +kernel
theorem dX7_findShared_43 : decode cX7_findShared 43 = .ok (.iconst 0, 1) := by decide +kernel
theorem dX7_findShared_44 : decode cX7_findShared 44 = .ok (.iastore, 1) := by decide +kernel
theorem dX7_findShared_45 : decode cX7_findShared 45 = .ok (.iconst 0, 1) := by decide +kernel
theorem dX7_findShared_46 : decode cX7_findShared 46 = .ok (.istore 5, 2) := by decide +kernel
theorem dX7_findShared_48 : decode cX7_findShared 48 = .ok (.iload 5, 2) := by decide +kernel
theorem dX7_findShared_50 : decode cX7_findShared 50 = .ok (.aload_n 0, 1) := by decide +kernel
theorem dX7_findShared_51 : decode cX7_findShared 51 = .ok (.getfield 12, 3) := by decide +kernel
theorem dX7_findShared_54 : decode cX7_findShared 54 = .ok (.getfield 126, 3) := by decide +kernel
theorem dX7_findShared_57 : decode cX7_findShared 57 = .ok (.getfield 229, 3) := by decide +kernel
theorem dX7_findShared_60 : decode cX7_findShared 60 = .ok (.if_icmp .ge 47, 3) := by decide +kernel
theorem dX7_findShared_63 : decode cX7_findShared 63 = .ok (.iload 4, 2) := by decide +kernel
theorem dX7_findShared_65 : decode cX7_findShared 65 = .ok (.iload 5, 2) := by decide +kernel
theorem dX7_findShared_67 : decode cX7_findShared 67 = .ok (.ishr, 1) := by decide +kernel
theorem dX7_findShared_68 : decode cX7_findShared 68 = .ok (.iconst 1, 1) := by decide +kernel
theorem dX7_findShared_69 : decode cX7_findShared 69 = .ok (.iand, 1) := by decide +kernel
theorem dX7_findShared_70 : decode cX7_findShared 70 = .ok (.iconst 1, 1) := by decide +kernel
theorem dX7_findShared_71 : decode cX7_findShared 71 = .ok (.if_icmp .ne 30, 3) := by decide +kernel
theorem dX7_findShared_74 : decode cX7_findShared 74 = .ok (.aload_n 0, 1) := by decide +kernel
theorem dX7_findShared_75 : decode cX7_findShared 75 = .ok (.getfield 40, 3) := by decide +kernel
theorem dX7_findShared_78 : decode cX7_findShared 78 = .ok (.iload_n 3, 1) := by decide +kernel
theorem dX7_findShared_79 : decode cX7_findShared 79 = .ok (.dup2, 1) := by decide +kernel
theorem dX7_findShared_80 : decode cX7_findShared 80 = .ok (.iaload, 1) := by decide +kernel
theorem dX7_findShared_81 : decode cX7_findShared 81 = .ok (.aload_n 0, 1) := by decide +kernel
theorem dX7_findShared_82 : decode cX7_findShared 82 = .ok (.getfield 12, 3) := by decide +kernel
theorem dX7_findShared_85 : decode cX7_findShared 85 = .ok (.iload 5, 2) := by decide +kernel
theorem dX7_findShared_87 : decode cX7_findShared 87 = .ok (.invokevirtual 373, 3) := by decide +kernel
theorem dX7_findShared_90 : decode cX7_findShared 90 = .ok (.aload_n 0, 1) := by decide +kernel
theorem dX7_findShared_91 : decode cX7_findShared 91 = .ok (.getfield 12, 3) := by decide +kernel
theorem dX7_findShared_94 : decode cX7_findShared 94 = .ok (.iload_n 3, 1) := by decide +kernel
theorem dX7_findShared_95 : decode cX7_findShared 95 = .ok (.invokevirtual 373, 3) := by decide +kernel
theorem dX7_findShared_98 : decode cX7_findShared 98 = .ok (.iand, 1) := by decide +kernel
theorem dX7_findShared_99 : decode cX7_findShared 99 = .ok (.ior, 1) := by decide +kernel
theorem dX7_findShared_100 : decode cX7_findShared 100 = .ok (.iastore, 1) := by decide +kernel
theorem dX7_findShared_101 : decode cX7_findShared 101 = .ok (.iinc 5 1, 3) := by decide +kernel
theorem dX7_findShared_104 : decode cX7_findShared 104 = .ok (.goto (-56), 3) := by decide +kernel
theorem dX7_findShared_107 : decode cX7_findShared 107 = .ok (.iload 4, 2) := by decide +kernel
theorem dX7_findShared_109 : decode cX7_findShared 109 = .ok (.ifCond .eq 9, 3) := by decide +kernel
theorem dX7_findShared_112 : decode cX7_findShared 112 = .ok (.iload_n 2, 1) := by decide +kernel
theorem dX7_findShared_113 : decode cX7_findShared 113 = .ok (.iconst 1, 1) := by decide +kernel
theorem dX7_findShared_114 : decode cX7_findShared 114 = .ok (.iload_n 3, 1) := by decide +kernel
theorem dX7_findShared_115 : decode cX7_findShared 115 = .ok (.ishl, 1) := by decide +kernel
theorem dX7_findShared_116 : decode cX7_findShared 116 = .ok (.ior, 1) := by decide +kernel
theorem dX7_findShared_117 : decode cX7_findShared 117 = .ok (.istore_n 2, 1) := by decide +kernel
theorem dX7_findShared_118 : decode cX7_findShared 118 = .ok (.iinc 3 1, 3) := by decide +kernel
theorem dX7_findShared_121 : decode cX7_findShared 121 = .ok (.goto (-117), 3) := by decide +kernel
theorem dX7_findShared_124 : decode cX7_findShared 124 = .ok (.iload_n 2, 1) := by decide +kernel
theorem dX7_findShared_125 : decode cX7_findShared 125 = .ok (.ireturn, 1) := by decide +kernel
theorem dX7_explainsAll_0 : decode cX7_explainsAll 0 = .ok (.iconst 0, 1) := by decide +kernel
theorem dX7_explainsAll_1 : decode cX7_explainsAll 1 = .ok (.istore_n 3, 1) := by decide +kernel
theorem dX7_explainsAll_2 : decode cX7_explainsAll 2 = .ok (.iload_n 3, 1) := by decide +kernel
theorem dX7_explainsAll_3 : decode cX7_explainsAll 3 = .ok (.aload_n 0, 1) := by decide +kernel
theorem dX7_explainsAll_4 : decode cX7_explainsAll 4 = .ok (.getfield 40, 3) := by decide +kernel
theorem dX7_explainsAll_7 : decode cX7_explainsAll 7 = .ok (.arraylength, 1) := by decide +kernel
theorem dX7_explainsAll_8 : decode cX7_explainsAll 8 = .ok (.if_icmp .ge 31, 3) := by decide +kernel
theorem dX7_explainsAll_11 : decode cX7_explainsAll 11 = .ok (.iload_n 2, 1) := by decide +kernel
theorem dX7_explainsAll_12 : decode cX7_explainsAll 12 = .ok (.iload_n 3, 1) := by decide +kernel
theorem dX7_explainsAll_13 : decode cX7_explainsAll 13 = .ok (.ishr, 1) := by decide +kernel
theorem dX7_explainsAll_14 : decode cX7_explainsAll 14 = .ok (.iconst 1, 1) := by decide +kernel
theorem dX7_explainsAll_15 : decode cX7_explainsAll 15 = .ok (.iand, 1) := by decide +kernel
theorem dX7_explainsAll_16 : decode cX7_explainsAll 16 = .ok (.iconst 1, 1) := by decide +kernel
theorem dX7_explainsAll_17 : decode cX7_explainsAll 17 = .ok (.if_icmp .ne 16, 3) := by decide +kernel
theorem dX7_explainsAll_20 : decode cX7_explainsAll 20 = .ok (.aload_n 0, 1) := by decide +kernel
theorem dX7_explainsAll_21 : decode cX7_explainsAll 21 = .ok (.getfield 40, 3) := by decide +kernel
theorem dX7_explainsAll_24 : decode cX7_explainsAll 24 = .ok (.iload_n 3, 1) := by decide +kernel
theorem dX7_explainsAll_25 : decode cX7_explainsAll 25 = .ok (.iaload, 1) := by decide +kernel
theorem dX7_explainsAll_26 : decode cX7_explainsAll 26 = .ok (.iload_n 1, 1) := by decide +kernel
theorem dX7_explainsAll_27 : decode cX7_explainsAll 27 = .ok (.iand, 1) := by decide +kernel
theorem dX7_explainsAll_28 : decode cX7_explainsAll 28 = .ok (.ifCond .ne 5, 3) := by decide +kernel
theorem dX7_explainsAll_31 : decode cX7_explainsAll 31 = .ok (.iconst 0, 1) := by decide +kernel
theorem dX7_explainsAll_32 : decode cX7_explainsAll 32 = .ok (.ireturn, 1) := by decide +kernel
theorem dX7_explainsAll_33 : decode cX7_explainsAll 33 = .ok (.iinc 3 1, 3) := by decide +kernel
theorem dX7_explainsAll_36 : decode cX7_explainsAll 36 = .ok (.goto (-34), 3) := by decide +kernel
theorem dX7_explainsAll_39 : decode cX7_explainsAll 39 = .ok (.iconst 1, 1) := by decide +kernel
theorem dX7_explainsAll_40 : decode cX7_explainsAll 40 = .ok (.ireturn, 1) := by decide +kernel
theorem dX7_findBehind_0 : decode cX7_findBehind 0 = .ok (.iconst 0, 1) := by decide +kernel
theorem dX7_findBehind_1 : decode cX7_findBehind 1 = .ok (.istore_n 2, 1) := by decide +kernel
theorem dX7_findBehind_2 : decode cX7_findBehind 2 = .ok (.iload_n 2, 1) := by decide +kernel
theorem dX7_findBehind_3 : decode cX7_findBehind 3 = .ok (.aload_n 0, 1) := by decide +kernel
theorem dX7_findBehind_4 : decode cX7_findBehind 4 = .ok (.getfield 43, 3) := by decide +kernel
theorem dX7_findBehind_7 : decode cX7_findBehind 7 = .ok (.arraylength, 1) := by decide +kernel
theorem dX7_findBehind_8 : decode cX7_findBehind 8 = .ok (.if_icmp .ge 27, 3) := by decide +kernel
theorem dX7_findBehind_11 : decode cX7_findBehind 11 = .ok (.aload_n 0, 1) := by decide +kernel
theorem dX7_findBehind_12 : decode cX7_findBehind 12 = .ok (.getfield 43, 3) := by decide +kernel
theorem dX7_findBehind_15 : decode cX7_findBehind 15 = .ok (.iload_n 2, 1) := by decide +kernel
theorem dX7_findBehind_16 : decode cX7_findBehind 16 = .ok (.iload_n 2, 1) := by decide +kernel
theorem dX7_findBehind_17 : decode cX7_findBehind 17 = .ok (.iload_n 1, 1) := by decide +kernel
theorem dX7_findBehind_18 : decode cX7_findBehind 18 = .ok (.if_icmp .ne 7, 3) := by decide +kernel
theorem dX7_findBehind_21 : decode cX7_findBehind 21 = .ok (.iconst 0, 1) := by decide +kernel
theorem dX7_findBehind_22 : decode cX7_findBehind 22 = .ok (.goto 6, 3) := by decide +kernel
theorem dX7_findBehind_25 : decode cX7_findBehind 25 = .ok (.ldc_w 296, 3) := by decide +kernel
theorem dX7_findBehind_28 : decode cX7_findBehind 28 = .ok (.iastore, 1) := by decide +kernel
theorem dX7_findBehind_29 : decode cX7_findBehind 29 = .ok (.iinc 2 1, 3) := by decide +kernel
theorem dX7_findBehind_32 : decode cX7_findBehind 32 = .ok (.goto (-30), 3) := by decide +kernel
theorem dX7_findBehind_35 : decode cX7_findBehind 35 = .ok (.iconst 0, 1) := by decide +kernel
theorem dX7_findBehind_36 : decode cX7_findBehind 36 = .ok (.istore_n 2, 1) := by decide +kernel
theorem dX7_findBehind_37 : decode cX7_findBehind 37 = .ok (.iload_n 2, 1) := by decide +kernel
theorem dX7_findBehind_38 : decode cX7_findBehind 38 = .ok (.aload_n 0, 1) := by decide +kernel
theorem dX7_findBehind_39 : decode cX7_findBehind 39 = .ok (.getfield 43, 3) := by decide +kernel
theorem dX7_findBehind_42 : decode cX7_findBehind 42 = .ok (.arraylength, 1) := by decide +kernel
theorem dX7_findBehind_43 : decode cX7_findBehind 43 = .ok (.if_icmp .ge 112, 3) := by decide +kernel
theorem dX7_findBehind_46 : decode cX7_findBehind 46 = .ok (.iconst 0, 1) := by decide +kernel
theorem dX7_findBehind_47 : decode cX7_findBehind 47 = .ok (.istore_n 3, 1) := by decide +kernel
theorem dX7_findBehind_48 : decode cX7_findBehind 48 = .ok (.iload_n 3, 1) := by decide +kernel
theorem dX7_findBehind_49 : decode cX7_findBehind 49 = .ok (.aload_n 0, 1) := by decide +kernel
theorem dX7_findBehind_50 : decode cX7_findBehind 50 = .ok (.getfield 12, 3) := by decide +kernel
theorem dX7_findBehind_53 : decode cX7_findBehind 53 = .ok (.getfield 283, 3) := by decide +kernel
theorem dX7_findBehind_56 : decode cX7_findBehind 56 = .ok (.getfield 229, 3) := by decide +kernel
theorem dX7_findBehind_59 : decode cX7_findBehind 59 = .ok (.if_icmp .ge 90, 3) := by decide +kernel
theorem dX7_findBehind_62 : decode cX7_findBehind 62 = .ok (.aload_n 0, 1) := by decide +kernel
theorem dX7_findBehind_63 : decode cX7_findBehind 63 = .ok (.getfield 12, 3) := by decide +kernel
theorem dX7_findBehind_66 : decode cX7_findBehind 66 = .ok (.getfield 283, 3) := by decide +kernel
theorem dX7_findBehind_69 : decode cX7_findBehind 69 = .ok (.iload_n 3, 1) := by decide +kernel
theorem dX7_findBehind_70 : decode cX7_findBehind 70 = .ok (.iconst 0, 1) := by decide +kernel
theorem dX7_findBehind_71 : decode cX7_findBehind 71 = .ok (.invokevirtual 76, 3) := by decide +kernel
theorem dX7_findBehind_74 : decode cX7_findBehind 74 = .ok (.istore 4, 2) := by decide +kernel
theorem dX7_findBehind_76 : decode cX7_findBehind 76 = .ok (.aload_n 0, 1) := by decide +kernel
theorem dX7_findBehind_77 : decode cX7_findBehind 77 = .ok (.getfield 12, 3) := by decide +kernel
theorem dX7_findBehind_80 : decode cX7_findBehind 80 = .ok (.getfield 283, 3) := by decide +kernel
theorem dX7_findBehind_83 : decode cX7_findBehind 83 = .ok (.iload_n 3, 1) := by decide +kernel
theorem dX7_findBehind_84 : decode cX7_findBehind 84 = .ok (.iconst 1, 1) := by decide +kernel
theorem dX7_findBehind_85 : decode cX7_findBehind 85 = .ok (.invokevirtual 76, 3) := by decide +kernel
theorem dX7_findBehind_88 : decode cX7_findBehind 88 = .ok (.istore 5, 2) := by decide +kernel
theorem dX7_findBehind_90 : decode cX7_findBehind 90 = .ok (.iload 4, 2) := by decide +kernel
theorem dX7_findBehind_92 : decode cX7_findBehind 92 = .ok (.invokestatic 280, 3) := by decide +kernel
theorem dX7_findBehind_95 : decode cX7_findBehind 95 = .ok (.ifCond .eq 48, 3) := by decide +kernel
theorem dX7_findBehind_98 : decode cX7_findBehind 98 = .ok (.iload 5, 2) := by decide +kernel
theorem dX7_findBehind_100 : decode cX7_findBehind 100 = .ok (.invokestatic 280, 3) := by decide +kernel
theorem dX7_findBehind_103 : decode cX7_findBehind 103 = .ok (.ifCond .eq 40, 3) := by decide +kernel
theorem dX7_findBehind_106 : decode cX7_findBehind 106 = .ok (.aload_n 0, 1) := by decide +kernel
theorem dX7_findBehind_107 : decode cX7_findBehind 107 = .ok (.getfield 43, 3) := by decide +kernel
theorem dX7_findBehind_110 : decode cX7_findBehind 110 = .ok (.iload 4, 2) := by decide +kernel
theorem dX7_findBehind_112 : decode cX7_findBehind 112 = .ok (.aload_n 0, 1) := by decide +kernel
theorem dX7_findBehind_113 : decode cX7_findBehind 113 = .ok (.getfield 43, 3) := by decide +kernel
theorem dX7_findBehind_116 : decode cX7_findBehind 116 = .ok (.iload 4, 2) := by decide +kernel
theorem dX7_findBehind_118 : decode cX7_findBehind 118 = .ok (.iaload, 1) := by decide +kernel
theorem dX7_findBehind_119 : decode cX7_findBehind 119 = .ok (.aload_n 0, 1) := by decide +kernel
theorem dX7_findBehind_120 : decode cX7_findBehind 120 = .ok (.getfield 43, 3) := by decide +kernel
theorem dX7_findBehind_123 : decode cX7_findBehind 123 = .ok (.iload 5, 2) := by decide +kernel
theorem dX7_findBehind_125 : decode cX7_findBehind 125 = .ok (.iaload, 1) := by decide +kernel
theorem dX7_findBehind_126 : decode cX7_findBehind 126 = .ok (.aload_n 0, 1) := by decide +kernel
theorem dX7_findBehind_127 : decode cX7_findBehind 127 = .ok (.getfield 12, 3) := by decide +kernel
theorem dX7_findBehind_130 : decode cX7_findBehind 130 = .ok (.getfield 283, 3) := by decide +kernel
theorem dX7_findBehind_133 : decode cX7_findBehind 133 = .ok (.iload_n 3, 1) := by decide +kernel
theorem dX7_findBehind_134 : decode cX7_findBehind 134 = .ok (.iconst 2, 1) := by decide +kernel
theorem dX7_findBehind_135 : decode cX7_findBehind 135 = .ok (.invokevirtual 76, 3) := by decide +kernel
theorem dX7_findBehind_138 : decode cX7_findBehind 138 = .ok (.iadd, 1) := by decide +kernel
theorem dX7_findBehind_139 : decode cX7_findBehind 139 = .ok (.invokestatic 232, 3) := by decide +kernel
theorem dX7_findBehind_142 : decode cX7_findBehind 142 = .ok (.iastore, 1) := by decide +kernel
theorem dX7_findBehind_143 : decode cX7_findBehind 143 = .ok (.iinc 3 1, 3) := by decide +kernel
theorem dX7_findBehind_146 : decode cX7_findBehind 146 = .ok (.goto (-98), 3) := by decide +kernel
theorem dX7_findBehind_149 : decode cX7_findBehind 149 = .ok (.iinc 2 1, 3) := by decide +kernel
theorem dX7_findBehind_152 : decode cX7_findBehind 152 = .ok (.goto (-115), 3) := by decide +kernel
theorem dX7_findBehind_155 : decode cX7_findBehind 155 = .ok (.return_, 1) := by decide +kernel
theorem dX7_dayOfNews_0 : decode cX7_dayOfNews 0 = .ok (.aload_n 0, 1) := by decide +kernel
theorem dX7_dayOfNews_1 : decode cX7_dayOfNews 1 = .ok (.getfield 12, 3) := by decide +kernel
theorem dX7_dayOfNews_4 : decode cX7_dayOfNews 4 = .ok (.getfield 286, 3) := by decide +kernel
theorem dX7_dayOfNews_7 : decode cX7_dayOfNews 7 = .ok (.iload_n 1, 1) := by decide +kernel
theorem dX7_dayOfNews_8 : decode cX7_dayOfNews 8 = .ok (.iconst 0, 1) := by decide +kernel
theorem dX7_dayOfNews_9 : decode cX7_dayOfNews 9 = .ok (.invokevirtual 76, 3) := by decide +kernel
theorem dX7_dayOfNews_12 : decode cX7_dayOfNews 12 = .ok (.istore_n 3, 1) := by decide +kernel
theorem dX7_dayOfNews_13 : decode cX7_dayOfNews 13 = .ok (.aload_n 0, 1) := by decide +kernel
theorem dX7_dayOfNews_14 : decode cX7_dayOfNews 14 = .ok (.getfield 12, 3) := by decide +kernel
theorem dX7_dayOfNews_17 : decode cX7_dayOfNews 17 = .ok (.getfield 286, 3) := by decide +kernel
theorem dX7_dayOfNews_20 : decode cX7_dayOfNews 20 = .ok (.iload_n 1, 1) := by decide +kernel
theorem dX7_dayOfNews_21 : decode cX7_dayOfNews 21 = .ok (.iconst 2, 1) := by decide +kernel
theorem dX7_dayOfNews_22 : decode cX7_dayOfNews 22 = .ok (.invokevirtual 76, 3) := by decide +kernel
theorem dX7_dayOfNews_25 : decode cX7_dayOfNews 25 = .ok (.istore 4, 2) := by decide +kernel
theorem dX7_dayOfNews_27 : decode cX7_dayOfNews 27 = .ok (.iload_n 3, 1) := by decide +kernel
theorem dX7_dayOfNews_28 : decode cX7_dayOfNews 28 = .ok (.iload_n 2, 1) := by decide +kernel
theorem dX7_dayOfNews_29 : decode cX7_dayOfNews 29 = .ok (.if_icmp .ne 6, 3) := by decide +kernel
theorem dX7_dayOfNews_32 : decode cX7_dayOfNews 32 = .ok (.iload 4, 2) := by decide +kernel
theorem dX7_dayOfNews_34 : decode cX7_dayOfNews 34 = .ok (.ireturn, 1) := by decide +kernel
theorem dX7_dayOfNews_35 : decode cX7_dayOfNews 35 = .ok (.iload_n 3, 1) := by decide +kernel
theorem dX7_dayOfNews_36 : decode cX7_dayOfNews 36 = .ok (.invokestatic 280, 3) := by decide +kernel
theorem dX7_dayOfNews_39 : decode cX7_dayOfNews 39 = .ok (.ifCond .eq 26, 3) := by decide +kernel
theorem dX7_dayOfNews_42 : decode cX7_dayOfNews 42 = .ok (.aload_n 0, 1) := by decide +kernel
theorem dX7_dayOfNews_43 : decode cX7_dayOfNews 43 = .ok (.iconst 2, 1) := by decide +kernel
theorem dX7_dayOfNews_44 : decode cX7_dayOfNews 44 = .ok (.iload_n 3, 1) := by decide +kernel
theorem dX7_dayOfNews_45 : decode cX7_dayOfNews 45 = .ok (.aload_n 0, 1) := by decide +kernel
theorem dX7_dayOfNews_46 : decode cX7_dayOfNews 46 = .ok (.getfield 12, 3) := by decide +kernel
theorem dX7_dayOfNews_49 : decode cX7_dayOfNews 49 = .ok (.getfield 286, 3) := by decide +kernel
theorem dX7_dayOfNews_52 : decode cX7_dayOfNews 52 = .ok (.iload_n 1, 1) := by decide +kernel
theorem dX7_dayOfNews_53 : decode cX7_dayOfNews 53 = .ok (.iconst 1, 1) := by decide +kernel
theorem dX7_dayOfNews_54 : decode cX7_dayOfNews 54 = .ok (.invokevirtual 76, 3) := by decide +kernel
theorem dX7_dayOfNews_57 : decode cX7_dayOfNews 57 = .ok (.iload 4, 2) := by decide +kernel
theorem dX7_dayOfNews_59 : decode cX7_dayOfNews 59 = .ok (.invokevirtual 207, 3) := by decide +kernel
theorem dX7_dayOfNews_62 : decode cX7_dayOfNews 62 = .ok (.ifCond .ne 7, 3) := by decide +kernel
theorem dX7_dayOfNews_65 : decode cX7_dayOfNews 65 = .ok (.ldc_w 296, 3) := by decide +kernel
theorem dX7_dayOfNews_68 : decode cX7_dayOfNews 68 = .ok (.ireturn, 1) := by decide +kernel
theorem dX7_dayOfNews_69 : decode cX7_dayOfNews 69 = .ok (.iload 4, 2) := by decide +kernel
theorem dX7_dayOfNews_71 : decode cX7_dayOfNews 71 = .ok (.aload_n 0, 1) := by decide +kernel
theorem dX7_dayOfNews_72 : decode cX7_dayOfNews 72 = .ok (.getfield 43, 3) := by decide +kernel
theorem dX7_dayOfNews_75 : decode cX7_dayOfNews 75 = .ok (.iload_n 3, 1) := by decide +kernel
theorem dX7_dayOfNews_76 : decode cX7_dayOfNews 76 = .ok (.iaload, 1) := by decide +kernel
theorem dX7_dayOfNews_77 : decode cX7_dayOfNews 77 = .ok (.iadd, 1) := by decide +kernel
theorem dX7_dayOfNews_78 : decode cX7_dayOfNews 78 = .ok (.ireturn, 1) := by decide +kernel
theorem dX7_insertDay_0 : decode cX7_insertDay 0 = .ok (.iload_n 2, 1) := by decide +kernel
theorem dX7_insertDay_1 : decode cX7_insertDay 1 = .ok (.aload_n 0, 1) := by decide +kernel
theorem dX7_insertDay_2 : decode cX7_insertDay 2 = .ok (.getfield 46, 3) := by decide +kernel
theorem dX7_insertDay_5 : decode cX7_insertDay 5 = .ok (.arraylength, 1) := by decide +kernel
theorem dX7_insertDay_6 : decode cX7_insertDay 6 = .ok (.if_icmp .lt 4, 3) := by decide +kernel
theorem dX7_insertDay_9 : decode cX7_insertDay 9 = .ok (.return_, 1) := by decide +kernel
theorem dX7_insertDay_10 : decode cX7_insertDay 10 = .ok (.iload_n 2, 1) := by decide +kernel
theorem dX7_insertDay_11 : decode cX7_insertDay 11 = .ok (.istore_n 3, 1) := by decide +kernel
theorem dX7_insertDay_12 : decode cX7_insertDay 12 = .ok (.iload_n 3, 1) := by decide +kernel
theorem dX7_insertDay_13 : decode cX7_insertDay 13 = .ok (.ifCond .le 35, 3) := by decide +kernel
theorem dX7_insertDay_16 : decode cX7_insertDay 16 = .ok (.aload_n 0, 1) := by decide +kernel
theorem dX7_insertDay_17 : decode cX7_insertDay 17 = .ok (.getfield 46, 3) := by decide +kernel
theorem dX7_insertDay_20 : decode cX7_insertDay 20 = .ok (.iload_n 3, 1) := by decide +kernel
theorem dX7_insertDay_21 : decode cX7_insertDay 21 = .ok (.iconst 1, 1) := by decide +kernel
theorem dX7_insertDay_22 : decode cX7_insertDay 22 = .ok (.isub, 1) := by decide +kernel
theorem dX7_insertDay_23 : decode cX7_insertDay 23 = .ok (.iaload, 1) := by decide +kernel
theorem dX7_insertDay_24 : decode cX7_insertDay 24 = .ok (.iload_n 1, 1) := by decide +kernel
theorem dX7_insertDay_25 : decode cX7_insertDay 25 = .ok (.if_icmp .le 23, 3) := by decide +kernel
theorem dX7_insertDay_28 : decode cX7_insertDay 28 = .ok (.aload_n 0, 1) := by decide +kernel
theorem dX7_insertDay_29 : decode cX7_insertDay 29 = .ok (.getfield 46, 3) := by decide +kernel
theorem dX7_insertDay_32 : decode cX7_insertDay 32 = .ok (.iload_n 3, 1) := by decide +kernel
theorem dX7_insertDay_33 : decode cX7_insertDay 33 = .ok (.aload_n 0, 1) := by decide +kernel
theorem dX7_insertDay_34 : decode cX7_insertDay 34 = .ok (.getfield 46, 3) := by decide +kernel
theorem dX7_insertDay_37 : decode cX7_insertDay 37 = .ok (.iload_n 3, 1) := by decide +kernel
theorem dX7_insertDay_38 : decode cX7_insertDay 38 = .ok (.iconst 1, 1) := by decide +kernel
theorem dX7_insertDay_39 : decode cX7_insertDay 39 = .ok (.isub, 1) := by decide +kernel
theorem dX7_insertDay_40 : decode cX7_insertDay 40 = .ok (.iaload, 1) := by decide +kernel
theorem dX7_insertDay_41 : decode cX7_insertDay 41 = .ok (.iastore, 1) := by decide +kernel
theorem dX7_insertDay_42 : decode cX7_insertDay 42 = .ok (.iinc 3 (-1), 3) := by decide +kernel
theorem dX7_insertDay_45 : decode cX7_insertDay 45 = .ok (.goto (-33), 3) := by decide +kernel
theorem dX7_insertDay_48 : decode cX7_insertDay 48 = .ok (.aload_n 0, 1) := by decide +kernel
theorem dX7_insertDay_49 : decode cX7_insertDay 49 = .ok (.getfield 46, 3) := by decide +kernel
theorem dX7_insertDay_52 : decode cX7_insertDay 52 = .ok (.iload_n 3, 1) := by decide +kernel
theorem dX7_insertDay_53 : decode cX7_insertDay 53 = .ok (.iload_n 1, 1) := by decide +kernel
theorem dX7_insertDay_54 : decode cX7_insertDay 54 = .ok (.iastore, 1) := by decide +kernel
theorem dX7_insertDay_55 : decode cX7_insertDay 55 = .ok (.return_, 1) := by decide +kernel
theorem dX7_shownBy_0 : decode cX7_shownBy 0 = .ok (.iconst 0, 1) := by decide +kernel
theorem dX7_shownBy_1 : decode cX7_shownBy 1 = .ok (.istore_n 2, 1) := by decide +kernel
theorem dX7_shownBy_2 : decode cX7_shownBy 2 = .ok (.iconst 0, 1) := by decide +kernel
theorem dX7_shownBy_3 : decode cX7_shownBy 3 = .ok (.istore_n 3, 1) := by decide +kernel
theorem dX7_shownBy_4 : decode cX7_shownBy 4 = .ok (.iload_n 3, 1) := by decide +kernel
theorem dX7_shownBy_5 : decode cX7_shownBy 5 = .ok (.aload_n 0, 1) := by decide +kernel
theorem dX7_shownBy_6 : decode cX7_shownBy 6 = .ok (.getfield 12, 3) := by decide +kernel
theorem dX7_shownBy_9 : decode cX7_shownBy 9 = .ok (.getfield 301, 3) := by decide +kernel
theorem dX7_shownBy_12 : decode cX7_shownBy 12 = .ok (.getfield 229, 3) := by decide +kernel
theorem dX7_shownBy_15 : decode cX7_shownBy 15 = .ok (.if_icmp .ge 33, 3) := by decide +kernel
theorem dX7_shownBy_18 : decode cX7_shownBy 18 = .ok (.iload_n 1, 1) := by decide +kernel
theorem dX7_shownBy_19 : decode cX7_shownBy 19 = .ok (.iload_n 3, 1) := by decide +kernel
theorem dX7_shownBy_20 : decode cX7_shownBy 20 = .ok (.ishr, 1) := by decide +kernel
theorem dX7_shownBy_21 : decode cX7_shownBy 21 = .ok (.iconst 1, 1) := by decide +kernel
theorem dX7_shownBy_22 : decode cX7_shownBy 22 = .ok (.iand, 1) := by decide +kernel
theorem dX7_shownBy_23 : decode cX7_shownBy 23 = .ok (.iconst 1, 1) := by decide +kernel
theorem dX7_shownBy_24 : decode cX7_shownBy 24 = .ok (.if_icmp .ne 18, 3) := by decide +kernel
theorem dX7_shownBy_27 : decode cX7_shownBy 27 = .ok (.iload_n 2, 1) := by decide +kernel
theorem dX7_shownBy_28 : decode cX7_shownBy 28 = .ok (.aload_n 0, 1) := by decide +kernel
theorem dX7_shownBy_29 : decode cX7_shownBy 29 = .ok (.getfield 12, 3) := by decide +kernel
theorem dX7_shownBy_32 : decode cX7_shownBy 32 = .ok (.getfield 301, 3) := by decide +kernel
theorem dX7_shownBy_35 : decode cX7_shownBy 35 = .ok (.iload_n 3, 1) := by decide +kernel
theorem dX7_shownBy_36 : decode cX7_shownBy 36 = .ok (.iconst 1, 1) := by decide +kernel
theorem dX7_shownBy_37 : decode cX7_shownBy 37 = .ok (.invokevirtual 76, 3) := by decide +kernel
theorem dX7_shownBy_40 : decode cX7_shownBy 40 = .ok (.ior, 1) := by decide +kernel
theorem dX7_shownBy_41 : decode cX7_shownBy 41 = .ok (.istore_n 2, 1) := by decide +kernel
theorem dX7_shownBy_42 : decode cX7_shownBy 42 = .ok (.iinc 3 1, 3) := by decide +kernel
theorem dX7_shownBy_45 : decode cX7_shownBy 45 = .ok (.goto (-41), 3) := by decide +kernel
theorem dX7_shownBy_48 : decode cX7_shownBy 48 = .ok (.iload_n 2, 1) := by decide +kernel
theorem dX7_shownBy_49 : decode cX7_shownBy 49 = .ok (.ireturn, 1) := by decide +kernel
theorem dX7_costOf_0 : decode cX7_costOf 0 = .ok (.iconst 0, 1) := by decide +kernel
theorem dX7_costOf_1 : decode cX7_costOf 1 = .ok (.istore_n 2, 1) := by decide +kernel
theorem dX7_costOf_2 : decode cX7_costOf 2 = .ok (.iconst 0, 1) := by decide +kernel
theorem dX7_costOf_3 : decode cX7_costOf 3 = .ok (.istore_n 3, 1) := by decide +kernel
theorem dX7_costOf_4 : decode cX7_costOf 4 = .ok (.iload_n 3, 1) := by decide +kernel
theorem dX7_costOf_5 : decode cX7_costOf 5 = .ok (.aload_n 0, 1) := by decide +kernel
theorem dX7_costOf_6 : decode cX7_costOf 6 = .ok (.getfield 12, 3) := by decide +kernel
theorem dX7_costOf_9 : decode cX7_costOf 9 = .ok (.getfield 301, 3) := by decide +kernel
theorem dX7_costOf_12 : decode cX7_costOf 12 = .ok (.getfield 229, 3) := by decide +kernel
theorem dX7_costOf_15 : decode cX7_costOf 15 = .ok (.if_icmp .ge 33, 3) := by decide +kernel
theorem dX7_costOf_18 : decode cX7_costOf 18 = .ok (.iload_n 1, 1) := by decide +kernel
theorem dX7_costOf_19 : decode cX7_costOf 19 = .ok (.iload_n 3, 1) := by decide +kernel
theorem dX7_costOf_20 : decode cX7_costOf 20 = .ok (.ishr, 1) := by decide +kernel
theorem dX7_costOf_21 : decode cX7_costOf 21 = .ok (.iconst 1, 1) := by decide +kernel
theorem dX7_costOf_22 : decode cX7_costOf 22 = .ok (.iand, 1) := by decide +kernel
theorem dX7_costOf_23 : decode cX7_costOf 23 = .ok (.iconst 1, 1) := by decide +kernel
theorem dX7_costOf_24 : decode cX7_costOf 24 = .ok (.if_icmp .ne 18, 3) := by decide +kernel
theorem dX7_costOf_27 : decode cX7_costOf 27 = .ok (.iload_n 2, 1) := by decide +kernel
theorem dX7_costOf_28 : decode cX7_costOf 28 = .ok (.aload_n 0, 1) := by decide +kernel
theorem dX7_costOf_29 : decode cX7_costOf 29 = .ok (.getfield 12, 3) := by decide +kernel
theorem dX7_costOf_32 : decode cX7_costOf 32 = .ok (.getfield 301, 3) := by decide +kernel
theorem dX7_costOf_35 : decode cX7_costOf 35 = .ok (.iload_n 3, 1) := by decide +kernel
theorem dX7_costOf_36 : decode cX7_costOf 36 = .ok (.iconst 0, 1) := by decide +kernel
theorem dX7_costOf_37 : decode cX7_costOf 37 = .ok (.invokevirtual 76, 3) := by decide +kernel
theorem dX7_costOf_40 : decode cX7_costOf 40 = .ok (.iadd, 1) := by decide +kernel
theorem dX7_costOf_41 : decode cX7_costOf 41 = .ok (.istore_n 2, 1) := by decide +kernel
theorem dX7_costOf_42 : decode cX7_costOf 42 = .ok (.iinc 3 1, 3) := by decide +kernel
theorem dX7_costOf_45 : decode cX7_costOf 45 = .ok (.goto (-41), 3) := by decide +kernel
theorem dX7_costOf_48 : decode cX7_costOf 48 = .ok (.iload_n 2, 1) := by decide +kernel
theorem dX7_costOf_49 : decode cX7_costOf 49 = .ok (.ireturn, 1) := by decide +kernel
theorem dX7_isLesser_0 : decode cX7_isLesser 0 = .ok (.aload_n 0, 1) := by decide +kernel
theorem dX7_isLesser_1 : decode cX7_isLesser 1 = .ok (.iload_n 1, 1) := by decide +kernel
theorem dX7_isLesser_2 : decode cX7_isLesser 2 = .ok (.invokevirtual 310, 3) := by decide +kernel
theorem dX7_isLesser_5 : decode cX7_isLesser 5 = .ok (.aload_n 0, 1) := by decide +kernel
theorem dX7_isLesser_6 : decode cX7_isLesser 6 = .ok (.iload_n 2, 1) := by decide +kernel
theorem dX7_isLesser_7 : decode cX7_isLesser 7 = .ok (.invokevirtual 310, 3) := by decide +kernel
theorem dX7_isLesser_10 : decode cX7_isLesser 10 = .ok (.isub, 1) := by decide +kernel
theorem dX7_isLesser_11 : decode cX7_isLesser 11 = .ok (.istore_n 3, 1) := by decide +kernel
theorem dX7_isLesser_12 : decode cX7_isLesser 12 = .ok (.iload_n 3, 1) := by decide +kernel
theorem dX7_isLesser_13 : decode cX7_isLesser 13 = .ok (.ifCond .lt 18, 3) := by decide +kernel
theorem dX7_isLesser_16 : decode cX7_isLesser 16 = .ok (.iload_n 3, 1) := by decide +kernel
theorem dX7_isLesser_17 : decode cX7_isLesser 17 = .ok (.ifCond .ne 18, 3) := by decide +kernel
theorem dX7_isLesser_20 : decode cX7_isLesser 20 = .ok (.iload_n 1, 1) := by decide +kernel
theorem dX7_isLesser_21 : decode cX7_isLesser 21 = .ok (.invokestatic 268, 3) := by decide +kernel
theorem dX7_isLesser_24 : decode cX7_isLesser 24 = .ok (.iload_n 2, 1) := by decide +kernel
theorem dX7_isLesser_25 : decode cX7_isLesser 25 = .ok (.invokestatic 268, 3) := by decide +kernel
theorem dX7_isLesser_28 : decode cX7_isLesser 28 = .ok (.if_icmp .ge 7, 3) := by decide +kernel
theorem dX7_isLesser_31 : decode cX7_isLesser 31 = .ok (.iconst 1, 1) := by decide +kernel
theorem dX7_isLesser_32 : decode cX7_isLesser 32 = .ok (.goto 4, 3) := by decide +kernel
theorem dX7_isLesser_35 : decode cX7_isLesser 35 = .ok (.iconst 0, 1) := by decide +kernel
theorem dX7_isLesser_36 : decode cX7_isLesser 36 = .ok (.ireturn, 1) := by decide +kernel
theorem dX8_init_0 : decode cX8_init 0 = .ok (.aload_n 0, 1) := by decide +kernel
theorem dX8_init_1 : decode cX8_init 1 = .ok (.invokespecial 3, 3) := by decide +kernel
theorem dX8_init_4 : decode cX8_init 4 = .ok (.aload_n 0, 1) := by decide +kernel
theorem dX8_init_5 : decode cX8_init 5 = .ok (.sipush 1234, 3) := by decide +kernel
theorem dX8_init_8 : decode cX8_init 8 = .ok (.newarray .int, 2) := by decide +kernel
theorem dX8_init_10 : decode cX8_init 10 = .ok (.putfield 9, 3) := by decide +kernel
theorem dX8_init_13 : decode cX8_init 13 = .ok (.aload_n 0, 1) := by decide +kernel
theorem dX8_init_14 : decode cX8_init 14 = .ok (.sipush 1234, 3) := by decide +kernel
theorem dX8_init_17 : decode cX8_init 17 = .ok (.newarray .int, 2) := by decide +kernel
theorem dX8_init_19 : decode cX8_init 19 = .ok (.putfield 13, 3) := by decide +kernel
theorem dX8_init_22 : decode cX8_init 22 = .ok (.aload_n 0, 1) := by decide +kernel
theorem dX8_init_23 : decode cX8_init 23 = .ok (.bipush 7, 2) := by decide +kernel
theorem dX8_init_25 : decode cX8_init 25 = .ok (.newarray .int, 2) := by decide +kernel
theorem dX8_init_27 : decode cX8_init 27 = .ok (.putfield 16, 3) := by decide +kernel
theorem dX8_init_30 : decode cX8_init 30 = .ok (.aload_n 0, 1) := by decide +kernel
theorem dX8_init_31 : decode cX8_init 31 = .ok (.iconst 3, 1) := by decide +kernel
theorem dX8_init_32 : decode cX8_init 32 = .ok (.anewarray 19, 3) := by decide +kernel
theorem dX8_init_35 : decode cX8_init 35 = .ok (.dup, 1) := by decide +kernel
theorem dX8_init_36 : decode cX8_init 36 = .ok (.iconst 0, 1) := by decide +kernel
theorem dX8_init_37 : decode cX8_init 37 = .ok (.ldc 21, 2) := by decide +kernel
theorem dX8_init_39 : decode cX8_init 39 = .ok (.aastore, 1) := by decide +kernel
theorem dX8_init_40 : decode cX8_init 40 = .ok (.dup, 1) := by decide +kernel
theorem dX8_init_41 : decode cX8_init 41 = .ok (.iconst 1, 1) := by decide +kernel
theorem dX8_init_42 : decode cX8_init 42 = .ok (.ldc 23, 2) := by decide +kernel
theorem dX8_init_44 : decode cX8_init 44 = .ok (.aastore, 1) := by decide +kernel
theorem dX8_init_45 : decode cX8_init 45 = .ok (.dup, 1) := by decide +kernel
theorem dX8_init_46 : decode cX8_init 46 = .ok (.iconst 2, 1) := by decide +kernel
theorem dX8_init_47 : decode cX8_init 47 = .ok (.ldc 25, 2) := by decide +kernel
theorem dX8_init_49 : decode cX8_init 49 = .ok (.aastore, 1) := by decide +kernel
theorem dX8_init_50 : decode cX8_init 50 = .ok (.putfield 27, 3) := by decide +kernel
theorem dX8_init_53 : decode cX8_init 53 = .ok (.aload_n 0, 1) := by decide +kernel
theorem dX8_init_54 : decode cX8_init 54 = .ok (.bipush 57, 2) := by decide +kernel
theorem dX8_init_56 : decode cX8_init 56 = .ok (.newarray .int, 2) := by decide +kernel
theorem dX8_init_58 : decode cX8_init 58 = .ok (.putfield 31, 3) := by decide +kernel
theorem dX8_init_61 : decode cX8_init 61 = .ok (.aload_n 0, 1) := by decide +kernel
theorem dX8_init_62 : decode cX8_init 62 = .ok (.iconst 3, 1) := by decide +kernel
theorem dX8_init_63 : decode cX8_init 63 = .ok (.newarray .int, 2) := by decide +kernel
theorem dX8_init_65 : decode cX8_init 65 = .ok (.putfield 34, 3) := by decide +kernel
theorem dX8_init_68 : decode cX8_init 68 = .ok (.aload_n 0, 1) := by decide +kernel
theorem dX8_init_69 : decode cX8_init 69 = .ok (.bipush 57, 2) := by decide +kernel
theorem dX8_init_71 : decode cX8_init 71 = .ok (.newarray .int, 2) := by decide +kernel
theorem dX8_init_73 : decode cX8_init 73 = .ok (.putfield 37, 3) := by decide +kernel
theorem dX8_init_76 : decode cX8_init 76 = .ok (.aload_n 0, 1) := by decide +kernel
theorem dX8_init_77 : decode cX8_init 77 = .ok (.iconst 5, 1) := by decide +kernel
theorem dX8_init_78 : decode cX8_init 78 = .ok (.newarray .int, 2) := by decide +kernel
theorem dX8_init_80 : decode cX8_init 80 = .ok (.putfield 40, 3) := by decide +kernel
theorem dX8_init_83 : decode cX8_init 83 = .ok (.aload_n 0, 1) := by decide +kernel
theorem dX8_init_84 : decode cX8_init 84 = .ok (.bipush 24, 2) := by decide +kernel
theorem dX8_init_86 : decode cX8_init 86 = .ok (.newarray .int, 2) := by decide +kernel
theorem dX8_init_88 : decode cX8_init 88 = .ok (.putfield 43, 3) := by decide +kernel
theorem dX8_init_91 : decode cX8_init 91 = .ok (.aload_n 0, 1) := by decide +kernel
theorem dX8_init_92 : decode cX8_init 92 = .ok (.bipush 8, 2) := by decide +kernel
theorem dX8_init_94 : decode cX8_init 94 = .ok (.newarray .int, 2) := by decide +kernel
theorem dX8_init_96 : decode cX8_init 96 = .ok (.putfield 46, 3) := by decide +kernel
theorem dX8_init_99 : decode cX8_init 99 = .ok (.aload_n 0, 1) := by decide +kernel
theorem dX8_init_100 : decode cX8_init 100 = .ok (.bipush 30, 2) := by decide +kernel
theorem dX8_init_102 : decode cX8_init 102 = .ok (.newarray .int, 2) := by decide +kernel
theorem dX8_init_104 : decode cX8_init 104 = .ok (.putfield 49, 3) := by decide +kernel
theorem dX8_init_107 : decode cX8_init 107 = .ok (.aload_n 0, 1) := by decide +kernel
theorem dX8_init_108 : decode cX8_init 108 = .ok (.bipush 30, 2) := by decide +kernel
theorem dX8_init_110 : decode cX8_init 110 = .ok (.newarray .int, 2) := by decide +kernel
theorem dX8_init_112 : decode cX8_init 112 = .ok (.putfield 52, 3) := by decide +kernel
theorem dX8_init_115 : decode cX8_init 115 = .ok (.aload_n 0, 1) := by decide +kernel
theorem dX8_init_116 : decode cX8_init 116 = .ok (.iconst 4, 1) := by decide +kernel
theorem dX8_init_117 : decode cX8_init 117 = .ok (.newarray .int, 2) := by decide +kernel
theorem dX8_init_119 : decode cX8_init 119 = .ok (.putfield 55, 3) := by decide +kernel
theorem dX8_init_122 : decode cX8_init 122 = .ok (.aload_n 0, 1) := by decide +kernel
theorem dX8_init_123 : decode cX8_init 123 = .ok (.iconst 4, 1) := by decide +kernel
theorem dX8_init_124 : decode cX8_init 124 = .ok (.newarray .int, 2) := by decide +kernel
theorem dX8_init_126 : decode cX8_init 126 = .ok (.putfield 58, 3) := by decide +kernel
theorem dX8_init_129 : decode cX8_init 129 = .ok (.aload_n 0, 1) := by decide +kernel
theorem dX8_init_130 : decode cX8_init 130 = .ok (.bipush 96, 2) := by decide +kernel
theorem dX8_init_132 : decode cX8_init 132 = .ok (.newarray .int, 2) := by decide +kernel
theorem dX8_init_134 : decode cX8_init 134 = .ok (.putfield 61, 3) := by decide +kernel
theorem dX8_init_137 : decode cX8_init 137 = .ok (.aload_n 0, 1) := by decide +kernel
theorem dX8_init_138 : decode cX8_init 138 = .ok (.bipush 24, 2) := by decide +kernel
theorem dX8_init_140 : decode cX8_init 140 = .ok (.newarray .int, 2) := by decide +kernel
theorem dX8_init_142 : decode cX8_init 142 = .ok (.putfield 64, 3) := by decide +kernel
theorem dX8_init_145 : decode cX8_init 145 = .ok (.aload_n 0, 1) := by decide +kernel
theorem dX8_init_146 : decode cX8_init 146 = .ok (.getfield 9, 3) := by decide +kernel
theorem dX8_init_149 : decode cX8_init 149 = .ok (.bipush 7, 2) := by decide +kernel
theorem dX8_init_151 : decode cX8_init 151 = .ok (.iconst 1, 1) := by decide +kernel
theorem dX8_init_152 : decode cX8_init 152 = .ok (.iastore, 1) := by decide +kernel
theorem dX8_init_153 : decode cX8_init 153 = .ok (.iconst 0, 1) := by decide +kernel
theorem dX8_init_154 : decode cX8_init 154 = .ok (.istore_n 1, 1) := by decide +kernel
theorem dX8_init_155 : decode cX8_init 155 = .ok (.iload_n 1, 1) := by decide +kernel
theorem dX8_init_156 : decode cX8_init 156 = .ok (.iconst 4, 1) := by decide +kernel
theorem dX8_init_157 : decode cX8_init 157 = .ok (.if_icmp .ge 21, 3) := by decide +kernel
theorem dX8_init_160 : decode cX8_init 160 = .ok (.aload_n 0, 1) := by decide +kernel
theorem dX8_init_161 : decode cX8_init 161 = .ok (.getfield 9, 3) := by decide +kernel
theorem dX8_init_164 : decode cX8_init 164 = .ok (.bipush 10, 2) := by decide +kernel
theorem dX8_init_166 : decode cX8_init 166 = .ok (.iconst 3, 1) := by decide +kernel
theorem dX8_init_167 : decode cX8_init 167 = .ok (.iload_n 1, 1) := by decide +kernel
theorem dX8_init_168 : decode cX8_init 168 = .ok (.imul, 1) := by decide +kernel
theorem dX8_init_169 : decode cX8_init 169 = .ok (.iadd, 1) := by decide +kernel
theorem dX8_init_170 : decode cX8_init 170 = .ok (.iconst 1, 1) := by decide +kernel
theorem dX8_init_171 : decode cX8_init 171 = .ok (.iastore, 1) := by decide +kernel
theorem dX8_init_172 : decode cX8_init 172 = .ok (.iinc 1 1, 3) := by decide +kernel
theorem dX8_init_175 : decode cX8_init 175 = .ok (.goto (-20), 3) := by decide +kernel
theorem dX8_init_178 : decode cX8_init 178 = .ok (.return_, 1) := by decide +kernel
theorem dX8_finding_0 : decode cX8_finding 0 = .ok (.aload_n 0, 1) := by decide +kernel
theorem dX8_finding_1 : decode cX8_finding 1 = .ok (.getfield 16, 3) := by decide +kernel
theorem dX8_finding_4 : decode cX8_finding 4 = .ok (.ldc 67, 2) := by decide +kernel
theorem dX8_finding_6 : decode cX8_finding 6 = .ok (.iload_n 1, 1) := by decide +kernel
theorem dX8_finding_7 : decode cX8_finding 7 = .ok (.isub, 1) := by decide +kernel
theorem dX8_finding_8 : decode cX8_finding 8 = .ok (.dup2, 1) := by decide +kernel
theorem dX8_finding_9 : decode cX8_finding 9 = .ok (.iaload, 1) := by decide +kernel
theorem dX8_finding_10 : decode cX8_finding 10 = .ok (.iconst 1, 1) := by decide +kernel
theorem dX8_finding_11 : decode cX8_finding 11 = .ok (.iadd, 1) := by decide +kernel
theorem dX8_finding_12 : decode cX8_finding 12 = .ok (.iastore, 1) := by decide +kernel
theorem dX8_finding_13 : decode cX8_finding 13 = .ok (.iload_n 1, 1) := by decide +kernel
theorem dX8_finding_14 : decode cX8_finding 14 = .ok (.ireturn, 1) := by decide +kernel
theorem dX8_within_0 : decode cX8_within 0 = .ok (.iload_n 0, 1) := by decide +kernel
theorem dX8_within_1 : decode cX8_within 1 = .ok (.iload_n 1, 1) := by decide +kernel
theorem dX8_within_2 : decode cX8_within 2 = .ok (.if_icmp .lt 12, 3) := by decide +kernel
theorem dX8_within_5 : decode cX8_within 5 = .ok (.iload_n 0, 1) := by decide +kernel
theorem dX8_within_6 : decode cX8_within 6 = .ok (.iload_n 2, 1) := by decide +kernel
theorem dX8_within_7 : decode cX8_within 7 = .ok (.if_icmp .gt 7, 3) := by decide +kernel
theorem dX8_within_10 : decode cX8_within 10 = .ok (.iconst 1, 1) := by decide +kernel
theorem dX8_within_11 : decode cX8_within 11 = .ok (.goto 4, 3) := by decide +kernel
theorem dX8_within_14 : decode cX8_within 14 = .ok (.iconst 0, 1) := by decide +kernel
theorem dX8_within_15 : decode cX8_within 15 = .ok (.ireturn, 1) := by decide +kernel
theorem dX8_is_0 : decode cX8_is 0 = .ok (.iload_n 1, 1) := by decide +kernel
theorem dX8_is_1 : decode cX8_is 1 = .ok (.iconst 0, 1) := by decide +kernel
theorem dX8_is_2 : decode cX8_is 2 = .ok (.aload_n 0, 1) := by decide +kernel
theorem dX8_is_3 : decode cX8_is 3 = .ok (.getfield 9, 3) := by decide +kernel
theorem dX8_is_6 : decode cX8_is 6 = .ok (.iload_n 2, 1) := by decide +kernel
theorem dX8_is_7 : decode cX8_is 7 = .ok (.iaload, 1) := by decide +kernel
theorem dX8_is_8 : decode cX8_is 8 = .ok (.iconst 1, 1) := by decide +kernel
theorem dX8_is_9 : decode cX8_is 9 = .ok (.isub, 1) := by decide +kernel
theorem dX8_is_10 : decode cX8_is 10 = .ok (.invokestatic 68, 3) := by decide +kernel
theorem dX8_is_13 : decode cX8_is 13 = .ok (.ireturn, 1) := by decide +kernel
theorem dX8_has_0 : decode cX8_has 0 = .ok (.iload_n 0, 1) := by decide +kernel
theorem dX8_has_1 : decode cX8_has 1 = .ok (.iload_n 1, 1) := by decide +kernel
theorem dX8_has_2 : decode cX8_has 2 = .ok (.ishr, 1) := by decide +kernel
theorem dX8_has_3 : decode cX8_has 3 = .ok (.iconst 1, 1) := by decide +kernel
theorem dX8_has_4 : decode cX8_has 4 = .ok (.iand, 1) := by decide +kernel
theorem dX8_has_5 : decode cX8_has 5 = .ok (.iconst 1, 1) := by decide +kernel
theorem dX8_has_6 : decode cX8_has 6 = .ok (.if_icmp .ne 7, 3) := by decide +kernel
theorem dX8_has_9 : decode cX8_has 9 = .ok (.iconst 1, 1) := by decide +kernel
theorem dX8_has_10 : decode cX8_has 10 = .ok (.goto 4, 3) := by decide +kernel
theorem dX8_has_13 : decode cX8_has 13 = .ok (.iconst 0, 1) := by decide +kernel
theorem dX8_has_14 : decode cX8_has 14 = .ok (.ireturn, 1) := by decide +kernel
theorem dX8_bits_0 : decode cX8_bits 0 = .ok (.iconst 0, 1) := by decide +kernel
theorem dX8_bits_1 : decode cX8_bits 1 = .ok (.istore_n 1, 1) := by decide +kernel
theorem dX8_bits_2 : decode cX8_bits 2 = .ok (.iconst 0, 1) := by decide +kernel
theorem dX8_bits_3 : decode cX8_bits 3 = .ok (.istore_n 2, 1) := by decide +kernel
theorem dX8_bits_4 : decode cX8_bits 4 = .ok (.iload_n 2, 1) := by decide +kernel
theorem dX8_bits_5 : decode cX8_bits 5 = .ok (.bipush 24, 2) := by decide +kernel
theorem dX8_bits_7 : decode cX8_bits 7 = .ok (.if_icmp .ge 17, 3) := by decide +kernel
theorem dX8_bits_10 : decode cX8_bits 10 = .ok (.iload_n 1, 1) := by decide +kernel
theorem dX8_bits_11 : decode cX8_bits 11 = .ok (.iload_n 0, 1) := by decide +kernel
theorem dX8_bits_12 : decode cX8_bits 12 = .ok (.iload_n 2, 1) := by decide +kernel
theorem dX8_bits_13 : decode cX8_bits 13 = .ok (.ishr, 1) := by decide +kernel
theorem dX8_bits_14 : decode cX8_bits 14 = .ok (.iconst 1, 1) := by decide +kernel
theorem dX8_bits_15 : decode cX8_bits 15 = .ok (.iand, 1) := by decide +kernel
theorem dX8_bits_16 : decode cX8_bits 16 = .ok (.iadd, 1) := by decide +kernel
theorem dX8_bits_17 : decode cX8_bits 17 = .ok (.istore_n 1, 1) := by decide +kernel
theorem dX8_bits_18 : decode cX8_bits 18 = .ok (.iinc 2 1, 3) := by decide +kernel
theorem dX8_bits_21 : decode cX8_bits 21 = .ok (.goto (-17), 3) := by decide +kernel
theorem dX8_bits_24 : decode cX8_bits 24 = .ok (.iload_n 1, 1) := by decide +kernel
theorem dX8_bits_25 : decode cX8_bits 25 = .ok (.ireturn, 1) := by decide +kernel
theorem dX8_become_0 : decode cX8_become 0 = .ok (.aload_n 0, 1) := by decide +kernel
theorem dX8_become_1 : decode cX8_become 1 = .ok (.getfield 9, 3) := by decide +kernel
theorem dX8_become_4 : decode cX8_become 4 = .ok (.iload_n 1, 1) := by decide +kernel
theorem dX8_become_5 : decode cX8_become 5 = .ok (.iaload, 1) := by decide +kernel
theorem dX8_become_6 : decode cX8_become 6 = .ok (.istore_n 3, 1) := by decide +kernel
theorem dX8_become_7 : decode cX8_become 7 = .ok (.aload_n 0, 1) := by decide +kernel
theorem dX8_become_8 : decode cX8_become 8 = .ok (.getfield 9, 3) := by decide +kernel
theorem dX8_become_11 : decode cX8_become 11 = .ok (.iload_n 1, 1) := by decide +kernel
theorem dX8_become_12 : decode cX8_become 12 = .ok (.iload_n 2, 1) := by decide +kernel
theorem dX8_become_13 : decode cX8_become 13 = .ok (.iastore, 1) := by decide +kernel
theorem dX8_become_14 : decode cX8_become 14 = .ok (.iload_n 3, 1) := by decide +kernel
theorem dX8_become_15 : decode cX8_become 15 = .ok (.ireturn, 1) := by decide +kernel
theorem dX8_machine_0 : decode cX8_machine 0 = .ok (.iload_n 1, 1) := by decide +kernel
theorem dX8_machine_1 : decode cX8_machine 1 = .ok (.iconst 0, 1) := by decide +kernel
theorem dX8_machine_2 : decode cX8_machine 2 = .ok (.iconst 3, 1) := by decide +kernel
theorem dX8_machine_3 : decode cX8_machine 3 = .ok (.invokestatic 68, 3) := by decide +kernel
theorem dX8_machine_6 : decode cX8_machine 6 = .ok (.ifCond .eq 58, 3) := by decide +kernel
theorem dX8_machine_9 : decode cX8_machine 9 = .ok (.iload_n 2, 1) := by decide +kernel
theorem dX8_machine_10 : decode cX8_machine 10 = .ok (.ifCond .ne 16, 3) := by decide +kernel
theorem dX8_machine_13 : decode cX8_machine 13 = .ok (.iload_n 3, 1) := by decide +kernel
theorem dX8_machine_14 : decode cX8_machine 14 = .ok (.iconst 1, 1) := by decide +kernel
theorem dX8_machine_15 : decode cX8_machine 15 = .ok (.bipush 99, 2) := by decide +kernel
theorem dX8_machine_17 : decode cX8_machine 17 = .ok (.invokestatic 68, 3) := by decide +kernel
theorem dX8_machine_20 : decode cX8_machine 20 = .ok (.ifCond .eq 44, 3) := by decide +kernel
theorem dX8_machine_23 : decode cX8_machine 23 = .ok (.goto 37, 3) := by decide +kernel
theorem dX8_machine_26 : decode cX8_machine 26 = .ok (.iload_n 2, 1) := by decide +kernel
theorem dX8_machine_27 : decode cX8_machine 27 = .ok (.iconst 1, 1) := by decide +kernel
theorem dX8_machine_28 : decode cX8_machine 28 = .ok (.if_icmp .ne 16, 3) := by decide +kernel
theorem dX8_machine_31 : decode cX8_machine 31 = .ok (.iload_n 3, 1) := by decide +kernel
theorem dX8_machine_32 : decode cX8_machine 32 = .ok (.iconst 0, 1) := by decide +kernel
theorem dX8_machine_33 : decode cX8_machine 33 = .ok (.bipush 50, 2) := by decide +kernel
theorem dX8_machine_35 : decode cX8_machine 35 = .ok (.invokestatic 68, 3) := by decide +kernel
theorem dX8_machine_38 : decode cX8_machine 38 = .ok (.ifCond .eq 26, 3) := by decide +kernel
theorem dX8_machine_41 : decode cX8_machine 41 = .ok (.goto 19, 3) := by decide +kernel
theorem dX8_machine_44 : decode cX8_machine 44 = .ok (.iload_n 2, 1) := by decide +kernel
theorem dX8_machine_45 : decode cX8_machine 45 = .ok (.iconst 2, 1) := by decide +kernel
theorem dX8_machine_46 : decode cX8_machine 46 = .ok (.if_icmp .ne 18, 3) := by decide +kernel
theorem dX8_machine_49 : decode cX8_machine 49 = .ok (.iload_n 3, 1) := by decide +kernel
theorem dX8_machine_50 : decode cX8_machine 50 = .ok (.iconst 0, 1) := by decide +kernel
theorem dX8_machine_51 : decode cX8_machine 51 = .ok (.sipush 9999, 3) := by decide +kernel
theorem dX8_machine_54 : decode cX8_machine 54 = .ok (.invokestatic 68, 3) := by decide +kernel
theorem dX8_machine_57 : decode cX8_machine 57 = .ok (.ifCond .eq 7, 3) := by decide +kernel
theorem dX8_machine_60 : decode cX8_machine 60 = .ok (.iconst 1, 1) := by decide +kernel
theorem dX8_machine_61 : decode cX8_machine 61 = .ok (.goto 4, 3) := by decide +kernel
theorem dX8_machine_64 : decode cX8_machine 64 = .ok (.iconst 0, 1) := by decide +kernel
theorem dX8_machine_65 : decode cX8_machine 65 = .ok (.istore 4, 2) := by decide +kernel
theorem dX8_machine_67 : decode cX8_machine 67 = .ok (.iload 4, 2) := by decide +kernel
theorem dX8_machine_69 : decode cX8_machine 69 = .ok (.ifCond .eq 19, 3) := by decide +kernel
theorem dX8_machine_72 : decode cX8_machine 72 = .ok (.aload_n 0, 1) := by decide +kernel
theorem dX8_machine_73 : decode cX8_machine 73 = .ok (.bipush 10, 2) := by decide +kernel
theorem dX8_machine_75 : decode cX8_machine 75 = .ok (.iconst 3, 1) := by decide +kernel
theorem dX8_machine_76 : decode cX8_machine 76 = .ok (.iload_n 1, 1) := by decide +kernel
theorem dX8_machine_77 : decode cX8_machine 77 = .ok (.imul, 1) := by decide +kernel
theorem dX8_machine_78 : decode cX8_machine 78 = .ok (.iadd, 1) := by decide +kernel
theorem dX8_machine_79 : decode cX8_machine 79 = .ok (.iload_n 2, 1) := by decide +kernel
theorem dX8_machine_80 : decode cX8_machine 80 = .ok (.iadd, 1) := by decide +kernel
theorem dX8_machine_81 : decode cX8_machine 81 = .ok (.iload_n 3, 1) := by decide +kernel
theorem dX8_machine_82 : decode cX8_machine 82 = .ok (.invokevirtual 72, 3) := by decide +kernel
theorem dX8_machine_85 : decode cX8_machine 85 = .ok (.goto 9, 3) := by decide +kernel
theorem dX8_machine_88 : decode cX8_machine 88 = .ok (.aload_n 0, 1) := by decide +kernel
theorem dX8_machine_89 : decode cX8_machine 89 = .ok (.ldc 76, 2) := by decide +kernel
theorem dX8_machine_91 : decode cX8_machine 91 = .ok (.invokevirtual 77, 3) := by decide +kernel
theorem dX8_machine_94 : decode cX8_machine 94 = .ok (.ireturn, 1) := by decide +kernel
theorem dX8_draws_0 : decode cX8_draws 0 = .ok (.aload_n 0, 1) := by decide +kernel
theorem dX8_draws_1 : decode cX8_draws 1 = .ok (.bipush 7, 2) := by decide +kernel
theorem dX8_draws_3 : decode cX8_draws 3 = .ok (.iload_n 1, 1) := by decide +kernel
theorem dX8_draws_4 : decode cX8_draws 4 = .ok (.invokevirtual 72, 3) := by decide +kernel
theorem dX8_draws_7 : decode cX8_draws 7 = .ok (.ireturn, 1) := by decide +kernel
theorem dX8_drawn_0 : decode cX8_drawn 0 = .ok (.aload_n 0, 1) := by decide +kernel
theorem dX8_drawn_1 : decode cX8_drawn 1 = .ok (.getfield 9, 3) := by decide +kernel
theorem dX8_drawn_4 : decode cX8_drawn 4 = .ok (.bipush 7, 2) := by decide +kernel
theorem dX8_drawn_6 : decode cX8_drawn 6 = .ok (.aload_n 0, 1) := by decide +kernel
theorem dX8_drawn_7 : decode cX8_drawn 7 = .ok (.getfield 9, 3) := by decide +kernel
theorem dX8_drawn_10 : decode cX8_drawn 10 = .ok (.bipush 7, 2) := by decide +kernel
theorem dX8_drawn_12 : decode cX8_drawn 12 = .ok (.iaload, 1) := by decide +kernel
theorem dX8_drawn_13 : decode cX8_drawn 13 = .ok (.ldc 81, 2) := by decide +kernel
theorem dX8_drawn_15 : decode cX8_drawn 15 = .ok (.imul, 1) := by decide +kernel
theorem dX8_drawn_16 : decode cX8_drawn 16 = .ok (.sipush 12345, 3) := by decide +kernel
theorem dX8_drawn_19 : decode cX8_drawn 19 = .ok (.iadd, 1) := by decide +kernel
theorem dX8_drawn_20 : decode cX8_drawn 20 = .ok (.iastore, 1) := by decide +kernel
theorem dX8_drawn_21 : decode cX8_drawn 21 = .ok (.aload_n 0, 1) := by decide +kernel
theorem dX8_drawn_22 : decode cX8_drawn 22 = .ok (.getfield 9, 3) := by decide +kernel
theorem dX8_drawn_25 : decode cX8_drawn 25 = .ok (.bipush 7, 2) := by decide +kernel
theorem dX8_drawn_27 : decode cX8_drawn 27 = .ok (.iaload, 1) := by decide +kernel
theorem dX8_drawn_28 : decode cX8_drawn 28 = .ok (.bipush 16, 2) := by decide +kernel
theorem dX8_drawn_30 : decode cX8_drawn 30 = .ok (.iushr, 1) := by decide +kernel
theorem dX8_drawn_31 : decode cX8_drawn 31 = .ok (.iload_n 1, 1) := by decide +kernel
theorem dX8_drawn_32 : decode cX8_drawn 32 = .ok (.irem, 1) := by decide +kernel
theorem dX8_drawn_33 : decode cX8_drawn 33 = .ok (.ireturn, 1) := by decide +kernel
theorem dX8_paper_0 : decode cX8_paper 0 = .ok (.aload_n 0, 1) := by decide +kernel
theorem dX8_paper_1 : decode cX8_paper 1 = .ok (.getfield 9, 3) := by decide +kernel
theorem dX8_paper_4 : decode cX8_paper 4 = .ok (.bipush 22, 2) := by decide +kernel
theorem dX8_paper_6 : decode cX8_paper 6 = .ok (.iconst 5, 1) := by decide +kernel
theorem dX8_paper_7 : decode cX8_paper 7 = .ok (.iload_n 1, 1) := by decide +kernel
theorem dX8_paper_8 : decode cX8_paper 8 = .ok (.imul, 1) := by decide +kernel
theorem dX8_paper_9 : decode cX8_paper 9 = .ok (.iadd, 1) := by decide +kernel
theorem dX8_paper_10 : decode cX8_paper 10 = .ok (.iload_n 2, 1) := by decide +kernel
theorem dX8_paper_11 : decode cX8_paper 11 = .ok (.iadd, 1) := by decide +kernel
theorem dX8_paper_12 : decode cX8_paper 12 = .ok (.iaload, 1) := by decide +kernel
theorem dX8_paper_13 : decode cX8_paper 13 = .ok (.ireturn, 1) := by decide +kernel
theorem dX8_paper__0 : decode cX8_paper_ 0 = .ok (.iload_n 1, 1) := by decide +kernel
theorem dX8_paper__1 : decode cX8_paper_ 1 = .ok (.iconst 0, 1) := by decide +kernel
theorem dX8_paper__2 : decode cX8_paper_ 2 = .ok (.sipush 999, 3) := by decide +kernel
theorem dX8_paper__5 : decode cX8_paper_ 5 = .ok (.invokestatic 68, 3) := by decide +kernel
theorem dX8_paper__8 : decode cX8_paper_ 8 = .ok (.ifCond .eq 24, 3) := by decide +kernel
theorem dX8_paper__11 : decode cX8_paper_ 11 = .ok (.iload_n 2, 1) := by decide +kernel
theorem dX8_paper__12 : decode cX8_paper_ 12 = .ok (.iconst 1, 1) := by decide +kernel
theorem dX8_paper__13 : decode cX8_paper_ 13 = .ok (.sipush 255, 3) := by decide +kernel
theorem dX8_paper__16 : decode cX8_paper_ 16 = .ok (.invokestatic 68, 3) := by decide +kernel
theorem dX8_paper__19 : decode cX8_paper_ 19 = .ok (.ifCond .eq 13, 3) := by decide +kernel
theorem dX8_paper__22 : decode cX8_paper_ 22 = .ok (.iload_n 3, 1) := by decide +kernel
theorem dX8_paper__23 : decode cX8_paper_ 23 = .ok (.iconst 1, 1) := by decide +kernel
theorem dX8_paper__24 : decode cX8_paper_ 24 = .ok (.bipush 99, 2) := by decide +kernel
theorem dX8_paper__26 : decode cX8_paper_ 26 = .ok (.invokestatic 68, 3) := by decide +kernel
theorem dX8_paper__29 : decode cX8_paper_ 29 = .ok (.ifCond .ne 10, 3) := by decide +kernel
theorem dX8_paper__32 : decode cX8_paper_ 32 = .ok (.aload_n 0, 1) := by decide +kernel
theorem dX8_paper__33 : decode cX8_paper_ 33 = .ok (.ldc 76, 2) := by decide +kernel
theorem dX8_paper__35 : decode cX8_paper_ 35 = .ok (.invokevirtual 77, 3) := by decide +kernel
theorem dX8_paper__38 : decode cX8_paper_ 38 = .ok (.ireturn, 1) := by decide +kernel
theorem dX8_paper__39 : decode cX8_paper_ 39 = .ok (.aload_n 0, 1) := by decide +kernel
theorem dX8_paper__40 : decode cX8_paper_ 40 = .ok (.getfield 9, 3) := by decide +kernel
theorem dX8_paper__43 : decode cX8_paper_ 43 = .ok (.iconst 0, 1) := by decide +kernel
theorem dX8_paper__44 : decode cX8_paper_ 44 = .ok (.iaload, 1) := by decide +kernel
theorem dX8_paper__45 : decode cX8_paper_ 45 = .ok (.istore 4, 2) := by decide +kernel
theorem dX8_paper__47 : decode cX8_paper_ 47 = .ok (.iload 4, 2) := by decide +kernel
theorem dX8_paper__49 : decode cX8_paper_ 49 = .ok (.bipush 12, 2) := by decide +kernel
theorem dX8_paper__51 : decode cX8_paper_ 51 = .ok (.if_icmp .ne 10, 3) := by decide +kernel
theorem dX8_paper__54 : decode cX8_paper_ 54 = .ok (.aload_n 0, 1) := by decide +kernel
theorem dX8_paper__55 : decode cX8_paper_ 55 = .ok (.ldc 82, 2) := by decide +kernel
theorem dX8_paper__57 : decode cX8_paper_ 57 = .ok (.invokevirtual 77, 3) := by decide +kernel
theorem dX8_paper__60 : decode cX8_paper_ 60 = .ok (.ireturn, 1) := by decide +kernel
theorem dX8_paper__61 : decode cX8_paper_ 61 = .ok (.bipush 22, 2) := by decide +kernel
theorem dX8_paper__63 : decode cX8_paper_ 63 = .ok (.iconst 5, 1) := by decide +kernel
theorem dX8_paper__64 : decode cX8_paper_ 64 = .ok (.iload 4, 2) := by decide +kernel
theorem dX8_paper__66 : decode cX8_paper_ 66 = .ok (.imul, 1) := by decide +kernel
theorem dX8_paper__67 : decode cX8_paper_ 67 = .ok (.iadd, 1) := by decide +kernel
theorem dX8_paper__68 : decode cX8_paper_ 68 = .ok (.istore 5, 2) := by decide +kernel
theorem dX8_paper__70 : decode cX8_paper_ 70 = .ok (.aload_n 0, 1) := by decide +kernel
theorem dX8_paper__71 : decode cX8_paper_ 71 = .ok (.getfield 9, 3) := by decide +kernel
theorem dX8_paper__74 : decode cX8_paper_ 74 = .ok (.iload 5, 2) := by decide +kernel
theorem dX8_paper__76 : decode cX8_paper_ 76 = .ok (.iconst 0, 1) := by decide +kernel
theorem dX8_paper__77 : decode cX8_paper_ 77 = .ok (.iadd, 1) := by decide +kernel
theorem dX8_paper__78 : decode cX8_paper_ 78 = .ok (.iload_n 1, 1) := by decide +kernel
theorem dX8_paper__79 : decode cX8_paper_ 79 = .ok (.iastore, 1) := by decide +kernel
theorem dX8_paper__80 : decode cX8_paper_ 80 = .ok (.aload_n 0, 1) := by decide +kernel
theorem dX8_paper__81 : decode cX8_paper_ 81 = .ok (.getfield 9, 3) := by decide +kernel
theorem dX8_paper__84 : decode cX8_paper_ 84 = .ok (.iload 5, 2) := by decide +kernel
theorem dX8_paper__86 : decode cX8_paper_ 86 = .ok (.iconst 1, 1) := by decide +kernel
theorem dX8_paper__87 : decode cX8_paper_ 87 = .ok (.iadd, 1) := by decide +kernel
theorem dX8_paper__88 : decode cX8_paper_ 88 = .ok (.iload_n 2, 1) := by decide +kernel
theorem dX8_paper__89 : decode cX8_paper_ 89 = .ok (.iastore, 1) := by decide +kernel
theorem dX8_paper__90 : decode cX8_paper_ 90 = .ok (.aload_n 0, 1) := by decide +kernel
theorem dX8_paper__91 : decode cX8_paper_ 91 = .ok (.getfield 9, 3) := by decide +kernel
theorem dX8_paper__94 : decode cX8_paper_ 94 = .ok (.iload 5, 2) := by decide +kernel
theorem dX8_paper__96 : decode cX8_paper_ 96 = .ok (.iconst 2, 1) := by decide +kernel
theorem dX8_paper__97 : decode cX8_paper_ 97 = .ok (.iadd, 1) := by decide +kernel
theorem dX8_paper__98 : decode cX8_paper_ 98 = .ok (.iload_n 3, 1) := by decide +kernel
theorem dX8_paper__99 : decode cX8_paper_ 99 = .ok (.iastore, 1) := by decide +kernel
theorem dX8_paper__100 : decode cX8_paper_ 100 = .ok (.aload_n 0, 1) := by decide +kernel
theorem dX8_paper__101 : decode cX8_paper_ 101 = .ok (.getfield 9, 3) := by decide +kernel
theorem dX8_paper__104 : decode cX8_paper_ 104 = .ok (.iload 5, 2) := by decide +kernel
theorem dX8_paper__106 : decode cX8_paper_ 106 = .ok (.iconst 3, 1) := by decide +kernel
theorem dX8_paper__107 : decode cX8_paper_ 107 = .ok (.iadd, 1) := by decide +kernel
theorem dX8_paper__108 : decode cX8_paper_ 108 = .ok (.iconst 0, 1) := by decide +kernel
theorem dX8_paper__109 : decode cX8_paper_ 109 = .ok (.iastore, 1) := by decide +kernel
theorem dX8_paper__110 : decode cX8_paper_ 110 = .ok (.aload_n 0, 1) := by decide +kernel
theorem dX8_paper__111 : decode cX8_paper_ 111 = .ok (.getfield 9, 3) := by decide +kernel
theorem dX8_paper__114 : decode cX8_paper_ 114 = .ok (.iload 5, 2) := by decide +kernel
theorem dX8_paper__116 : decode cX8_paper_ 116 = .ok (.iconst 4, 1) := by decide +kernel
theorem dX8_paper__117 : decode cX8_paper_ 117 = .ok (.iadd, 1) := by decide +kernel
theorem dX8_paper__118 : decode cX8_paper_ 118 = .ok (.iconst 0, 1) := by decide +kernel
theorem dX8_paper__119 : decode cX8_paper_ 119 = .ok (.iastore, 1) := by decide +kernel
theorem dX8_paper__120 : decode cX8_paper_ 120 = .ok (.aload_n 0, 1) := by decide +kernel
theorem dX8_paper__121 : decode cX8_paper_ 121 = .ok (.getfield 9, 3) := by decide +kernel
theorem dX8_paper__124 : decode cX8_paper_ 124 = .ok (.iconst 0, 1) := by decide +kernel
theorem dX8_paper__125 : decode cX8_paper_ 125 = .ok (.dup2, 1) := by decide +kernel
theorem dX8_paper__126 : decode cX8_paper_ 126 = .ok (.iaload, 1) := by decide +kernel
theorem dX8_paper__127 : decode cX8_paper_ 127 = .ok (.iconst 1, 1) := by decide +kernel
theorem dX8_paper__128 : decode cX8_paper_ 128 = .ok (.iadd, 1) := by decide +kernel
theorem dX8_paper__129 : decode cX8_paper_ 129 = .ok (.iastore, 1) := by decide +kernel
theorem dX8_paper__130 : decode cX8_paper_ 130 = .ok (.iload 4, 2) := by decide +kernel
theorem dX8_paper__132 : decode cX8_paper_ 132 = .ok (.ireturn, 1) := by decide +kernel
theorem dX8_paperIs_0 : decode cX8_paperIs 0 = .ok (.aload_n 0, 1) := by decide +kernel
theorem dX8_paperIs_1 : decode cX8_paperIs 1 = .ok (.iload_n 1, 1) := by decide +kernel
theorem dX8_paperIs_2 : decode cX8_paperIs 2 = .ok (.iconst 0, 1) := by decide +kernel
theorem dX8_paperIs_3 : decode cX8_paperIs 3 = .ok (.invokevirtual 83, 3) := by decide +kernel
theorem dX8_paperIs_6 : decode cX8_paperIs 6 = .ok (.ifCond .eq 12, 3) := by decide +kernel
theorem dX8_paperIs_9 : decode cX8_paperIs 9 = .ok (.iload_n 2, 1) := by decide +kernel
theorem dX8_paperIs_10 : decode cX8_paperIs 10 = .ok (.iconst 0, 1) := by decide +kernel
theorem dX8_paperIs_11 : decode cX8_paperIs 11 = .ok (.iconst 5, 1) := by decide +kernel
theorem dX8_paperIs_12 : decode cX8_paperIs 12 = .ok (.invokestatic 68, 3) := by decide +kernel
theorem dX8_paperIs_15 : decode cX8_paperIs 15 = .ok (.ifCond .ne 10, 3) := by decide +kernel
theorem dX8_paperIs_18 : decode cX8_paperIs 18 = .ok (.aload_n 0, 1) := by decide +kernel
theorem dX8_paperIs_19 : decode cX8_paperIs 19 = .ok (.ldc 76, 2) := by decide +kernel
theorem dX8_paperIs_21 : decode cX8_paperIs 21 = .ok (.invokevirtual 77, 3) := by decide +kernel
theorem dX8_paperIs_24 : decode cX8_paperIs 24 = .ok (.ireturn, 1) := by decide +kernel
theorem dX8_paperIs_25 : decode cX8_paperIs 25 = .ok (.iconst 0, 1) := by decide +kernel
theorem dX8_paperIs_26 : decode cX8_paperIs 26 = .ok (.istore_n 3, 1) := by decide +kernel
theorem dX8_paperIs_27 : decode cX8_paperIs 27 = .ok (.iconst 0, 1) := by decide +kernel
theorem dX8_paperIs_28 : decode cX8_paperIs 28 = .ok (.istore 4, 2) := by decide +kernel
theorem dX8_paperIs_30 : decode cX8_paperIs 30 = .ok (.iload 4, 2) := by decide +kernel
theorem dX8_paperIs_32 : decode cX8_paperIs 32 = .ok (.aload_n 0, 1) := by decide +kernel
theorem dX8_paperIs_33 : decode cX8_paperIs 33 = .ok (.getfield 9, 3) := by decide +kernel
theorem dX8_paperIs_36 : decode cX8_paperIs 36 = .ok (.iconst 1, 1) := by decide +kernel
theorem dX8_paperIs_37 : decode cX8_paperIs 37 = .ok (.iaload, 1) := by decide +kernel
theorem dX8_paperIs_38 : decode cX8_paperIs 38 = .ok (.if_icmp .ge 28, 3) := by decide +kernel
theorem dX8_paperIs_41 : decode cX8_paperIs 41 = .ok (.iload_n 3, 1) := by decide +kernel
theorem dX8_paperIs_42 : decode cX8_paperIs 42 = .ok (.aload_n 0, 1) := by decide +kernel
theorem dX8_paperIs_43 : decode cX8_paperIs 43 = .ok (.iload 4, 2) := by decide +kernel
theorem dX8_paperIs_45 : decode cX8_paperIs 45 = .ok (.iconst 1, 1) := by decide +kernel
theorem dX8_paperIs_46 : decode cX8_paperIs 46 = .ok (.invokevirtual 87, 3) := by decide +kernel
theorem dX8_paperIs_49 : decode cX8_paperIs 49 = .ok (.iload_n 1, 1) := by decide +kernel
theorem dX8_paperIs_50 : decode cX8_paperIs 50 = .ok (.if_icmp .ne 7, 3) := by decide +kernel
theorem dX8_paperIs_53 : decode cX8_paperIs 53 = .ok (.iconst 1, 1) := by decide +kernel
theorem dX8_paperIs_54 : decode cX8_paperIs 54 = .ok (.goto 4, 3) := by decide +kernel
theorem dX8_paperIs_57 : decode cX8_paperIs 57 = .ok (.iconst 0, 1) := by decide +kernel
theorem dX8_paperIs_58 : decode cX8_paperIs 58 = .ok (.iadd, 1) := by decide +kernel
theorem dX8_paperIs_59 : decode cX8_paperIs 59 = .ok (.istore_n 3, 1) := by decide +kernel
theorem dX8_paperIs_60 : decode cX8_paperIs 60 = .ok (.iinc 4 1, 3) := by decide +kernel
theorem dX8_paperIs_63 : decode cX8_paperIs 63 = .ok (.goto (-33), 3) := by decide +kernel
theorem dX8_paperIs_66 : decode cX8_paperIs 66 = .ok (.iload_n 2, 1) := by decide +kernel
theorem dX8_paperIs_67 : decode cX8_paperIs 67 = .ok (.iconst 5, 1) := by decide +kernel
theorem dX8_paperIs_68 : decode cX8_paperIs 68 = .ok (.if_icmp .ge 12, 3) := by decide +kernel
theorem dX8_paperIs_71 : decode cX8_paperIs 71 = .ok (.aload_n 0, 1) := by decide +kernel
theorem dX8_paperIs_72 : decode cX8_paperIs 72 = .ok (.iload_n 1, 1) := by decide +kernel
theorem dX8_paperIs_73 : decode cX8_paperIs 73 = .ok (.iload_n 2, 1) := by decide +kernel
theorem dX8_paperIs_74 : decode cX8_paperIs 74 = .ok (.invokevirtual 90, 3) := by decide +kernel
theorem dX8_paperIs_77 : decode cX8_paperIs 77 = .ok (.goto 4, 3) := by decide +kernel
theorem dX8_paperIs_80 : decode cX8_paperIs 80 = .ok (.iload_n 3, 1) := by decide +kernel
theorem dX8_paperIs_81 : decode cX8_paperIs 81 = .ok (.ireturn, 1) := by decide +kernel
theorem dX8_curve_0 : decode cX8_curve 0 = .ok (.aload_n 0, 1) := by decide +kernel
theorem dX8_curve_1 : decode cX8_curve 1 = .ok (.getfield 9, 3) := by decide +kernel
theorem dX8_curve_4 : decode cX8_curve 4 = .ok (.bipush 82, 2) := by decide +kernel
theorem dX8_curve_6 : decode cX8_curve 6 = .ok (.bipush 29, 2) := by decide +kernel
theorem dX8_curve_8 : decode cX8_curve 8 = .ok (.iload_n 1, 1) := by decide +kernel
theorem dX8_curve_9 : decode cX8_curve 9 = .ok (.imul, 1) := by decide +kernel
theorem dX8_curve_10 : decode cX8_curve 10 = .ok (.iadd, 1) := by decide +kernel
theorem dX8_curve_11 : decode cX8_curve 11 = .ok (.iload_n 2, 1) := by decide +kernel
theorem dX8_curve_12 : decode cX8_curve 12 = .ok (.iadd, 1) := by decide +kernel
theorem dX8_curve_13 : decode cX8_curve 13 = .ok (.iaload, 1) := by decide +kernel
theorem dX8_curve_14 : decode cX8_curve 14 = .ok (.ireturn, 1) := by decide +kernel
theorem dX8_dot_0 : decode cX8_dot 0 = .ok (.aload_n 0, 1) := by decide +kernel
theorem dX8_dot_1 : decode cX8_dot 1 = .ok (.iload_n 1, 1) := by decide +kernel
theorem dX8_dot_2 : decode cX8_dot 2 = .ok (.iconst 5, 1) := by decide +kernel
theorem dX8_dot_3 : decode cX8_dot 3 = .ok (.iload_n 2, 1) := by decide +kernel
theorem dX8_dot_4 : decode cX8_dot 4 = .ok (.iadd, 1) := by decide +kernel
theorem dX8_dot_5 : decode cX8_dot 5 = .ok (.invokevirtual 87, 3) := by decide +kernel
theorem dX8_dot_8 : decode cX8_dot 8 = .ok (.ireturn, 1) := by decide +kernel
theorem dX8_many_0 : decode cX8_many 0 = .ok (.aload_n 0, 1) := by decide +kernel
theorem dX8_many_1 : decode cX8_many 1 = .ok (.iload_n 1, 1) := by decide +kernel
theorem dX8_many_2 : decode cX8_many 2 = .ok (.iconst 3, 1) := by decide +kernel
theorem dX8_many_3 : decode cX8_many 3 = .ok (.invokevirtual 87, 3) := by decide +kernel
theorem dX8_many_6 : decode cX8_many 6 = .ok (.ireturn, 1) := by decide +kernel
theorem dX8_dayOf_0 : decode cX8_dayOf 0 = .ok (.aload_n 0, 1) := by decide +kernel
theorem dX8_dayOf_1 : decode cX8_dayOf 1 = .ok (.aload_n 0, 1) := by decide +kernel
theorem dX8_dayOf_2 : decode cX8_dayOf 2 = .ok (.iload_n 1, 1) := by decide +kernel
theorem dX8_dayOf_3 : decode cX8_dayOf 3 = .ok (.iconst 1, 1) := by decide +kernel
theorem dX8_dayOf_4 : decode cX8_dayOf 4 = .ok (.invokevirtual 87, 3) := by decide +kernel
theorem dX8_dayOf_7 : decode cX8_dayOf 7 = .ok (.iconst 0, 1) := by decide +kernel
theorem dX8_dayOf_8 : decode cX8_dayOf 8 = .ok (.invokevirtual 90, 3) := by decide +kernel
theorem dX8_dayOf_11 : decode cX8_dayOf 11 = .ok (.ireturn, 1) := by decide +kernel
theorem dX8_namesOf_0 : decode cX8_namesOf 0 = .ok (.aload_n 0, 1) := by decide +kernel
theorem dX8_namesOf_1 : decode cX8_namesOf 1 = .ok (.aload_n 0, 1) := by decide +kernel
theorem dX8_namesOf_2 : decode cX8_namesOf 2 = .ok (.iload_n 1, 1) := by decide +kernel
theorem dX8_namesOf_3 : decode cX8_namesOf 3 = .ok (.iconst 1, 1) := by decide +kernel
theorem dX8_namesOf_4 : decode cX8_namesOf 4 = .ok (.invokevirtual 87, 3) := by decide +kernel
theorem dX8_namesOf_7 : decode cX8_namesOf 7 = .ok (.iconst 1, 1) := by decide +kernel
theorem dX8_namesOf_8 : decode cX8_namesOf 8 = .ok (.invokevirtual 90, 3) := by decide +kernel
theorem dX8_namesOf_11 : decode cX8_namesOf 11 = .ok (.ireturn, 1) := by decide +kernel
theorem dX8_held_0 : decode cX8_held 0 = .ok (.ldc2_w 93, 3) := by decide +kernel
theorem dX8_held_3 : decode cX8_held 3 = .ok (.ldc2_w 95, 3) := by decide +kernel
theorem dX8_held_6 : decode cX8_held 6 = .ok (.lload_n 0, 1) := by decide +kernel
theorem dX8_held_7 : decode cX8_held 7 = .ok (.invokestatic 97, 3) := by decide +kernel
theorem dX8_held_10 : decode cX8_held 10 = .ok (.invokestatic 103, 3) := by decide +kernel
theorem dX8_held_13 : decode cX8_held 13 = .ok (.l2i, 1) := by decide +kernel
theorem dX8_held_14 : decode cX8_held 14 = .ok (.ireturn, 1) := by decide +kernel
theorem dX8_begin_0 : decode cX8_begin 0 = .ok (.aload_n 0, 1) := by decide +kernel
theorem dX8_begin_1 : decode cX8_begin 1 = .ok (.getfield 9, 3) := by decide +kernel
theorem dX8_begin_4 : decode cX8_begin 4 = .ok (.iconst 1, 1) := by decide +kernel
theorem dX8_begin_5 : decode cX8_begin 5 = .ok (.iaload, 1) := by decide +kernel
theorem dX8_begin_6 : decode cX8_begin 6 = .ok (.istore 6, 2) := by decide +kernel
theorem dX8_begin_8 : decode cX8_begin 8 = .ok (.bipush 82, 2) := by decide +kernel
theorem dX8_begin_10 : decode cX8_begin 10 = .ok (.bipush 29, 2) := by decide +kernel
theorem dX8_begin_12 : decode cX8_begin 12 = .ok (.iload 6, 2) := by decide +kernel
theorem dX8_begin_14 : decode cX8_begin 14 = .ok (.imul, 1) := by decide +kernel
theorem dX8_begin_15 : decode cX8_begin 15 = .ok (.iadd, 1) := by decide +kernel
theorem dX8_begin_16 : decode cX8_begin 16 = .ok (.istore 7, 2) := by decide +kernel
theorem dX8_begin_18 : decode cX8_begin 18 = .ok (.aload_n 0, 1) := by decide +kernel
theorem dX8_begin_19 : decode cX8_begin 19 = .ok (.getfield 9, 3) := by decide +kernel
theorem dX8_begin_22 : decode cX8_begin 22 = .ok (.iload 7, 2) := by decide +kernel
theorem dX8_begin_24 : decode cX8_begin 24 = .ok (.iconst 0, 1) := by decide +kernel
theorem dX8_begin_25 : decode cX8_begin 25 = .ok (.iadd, 1) := by decide +kernel
theorem dX8_begin_26 : decode cX8_begin 26 = .ok (.iload_n 1, 1) := by decide +kernel
theorem dX8_begin_27 : decode cX8_begin 27 = .ok (.iastore, 1) := by decide +kernel
theorem dX8_begin_28 : decode cX8_begin 28 = .ok (.aload_n 0, 1) := by decide +kernel
theorem dX8_begin_29 : decode cX8_begin 29 = .ok (.getfield 9, 3) := by decide +kernel
theorem dX8_begin_32 : decode cX8_begin 32 = .ok (.iload 7, 2) := by decide +kernel
theorem dX8_begin_34 : decode cX8_begin 34 = .ok (.iconst 1, 1) := by decide +kernel
theorem dX8_begin_35 : decode cX8_begin 35 = .ok (.iadd, 1) := by decide +kernel
theorem dX8_begin_36 : decode cX8_begin 36 = .ok (.iload_n 2, 1) := by decide +kernel
theorem dX8_begin_37 : decode cX8_begin 37 = .ok (.iastore, 1) := by decide +kernel
theorem dX8_begin_38 : decode cX8_begin 38 = .ok (.aload_n 0, 1) := by decide +kernel
theorem dX8_begin_39 : decode cX8_begin 39 = .ok (.getfield 9, 3) := by decide +kernel
theorem dX8_begin_42 : decode cX8_begin 42 = .ok (.iload 7, 2) := by decide +kernel
theorem dX8_begin_44 : decode cX8_begin 44 = .ok (.iconst 2, 1) := by decide +kernel
theorem dX8_begin_45 : decode cX8_begin 45 = .ok (.iadd, 1) := by decide +kernel
theorem dX8_begin_46 : decode cX8_begin 46 = .ok (.iload_n 3, 1) := by decide +kernel
theorem dX8_begin_47 : decode cX8_begin 47 = .ok (.iastore, 1) := by decide +kernel
theorem dX8_begin_48 : decode cX8_begin 48 = .ok (.aload_n 0, 1) := by decide +kernel
theorem dX8_begin_49 : decode cX8_begin 49 = .ok (.getfield 9, 3) := by decide +kernel
theorem dX8_begin_52 : decode cX8_begin 52 = .ok (.iload 7, 2) := by decide +kernel
theorem dX8_begin_54 : decode cX8_begin 54 = .ok (.iconst 3, 1) := by decide +kernel
theorem dX8_begin_55 : decode cX8_begin 55 = .ok (.iadd, 1) := by decide +kernel
theorem dX8_begin_56 : decode cX8_begin 56 = .ok (.iload 4, 2) := by decide +kernel
theorem dX8_begin_58 : decode cX8_begin 58 = .ok (.iastore, 1) := by decide +kernel
theorem dX8_begin_59 : decode cX8_begin 59 = .ok (.aload_n 0, 1) := by decide +kernel
theorem dX8_begin_60 : decode cX8_begin 60 = .ok (.getfield 9, 3) := by decide +kernel
theorem dX8_begin_63 : decode cX8_begin 63 = .ok (.iload 7, 2) := by decide +kernel
theorem dX8_begin_65 : decode cX8_begin 65 = .ok (.iconst 4, 1) := by decide +kernel
theorem dX8_begin_66 : decode cX8_begin 66 = .ok (.iadd, 1) := by decide +kernel
theorem dX8_begin_67 : decode cX8_begin 67 = .ok (.iload 5, 2) := by decide +kernel
theorem dX8_begin_69 : decode cX8_begin 69 = .ok (.iastore, 1) := by decide +kernel
theorem dX8_begin_70 : decode cX8_begin 70 = .ok (.aload_n 0, 1) := by decide +kernel
theorem dX8_begin_71 : decode cX8_begin 71 = .ok (.getfield 9, 3) := by decide +kernel
theorem dX8_begin_74 : decode cX8_begin 74 = .ok (.iconst 1, 1) := by decide +kernel
theorem dX8_begin_75 : decode cX8_begin 75 = .ok (.dup2, 1) := by decide +kernel
theorem dX8_begin_76 : decode cX8_begin 76 = .ok (.iaload, 1) := by decide +kernel
theorem dX8_begin_77 : decode cX8_begin 77 = .ok (.iconst 1, 1) := by decide +kernel
theorem dX8_begin_78 : decode cX8_begin 78 = .ok (.iadd, 1) := by decide +kernel
theorem dX8_begin_79 : decode cX8_begin 79 = .ok (.iastore, 1) := by decide +kernel
theorem dX8_begin_80 : decode cX8_begin 80 = .ok (.iload 6, 2) := by decide +kernel
theorem dX8_begin_82 : decode cX8_begin 82 = .ok (.ireturn, 1) := by decide +kernel
theorem dX8_lay_0 : decode cX8_lay 0 = .ok (.aload_n 0, 1) := by decide +kernel
theorem dX8_lay_1 : decode cX8_lay 1 = .ok (.getfield 9, 3) := by decide +kernel
theorem dX8_lay_4 : decode cX8_lay 4 = .ok (.bipush 82, 2) := by decide +kernel
theorem dX8_lay_6 : decode cX8_lay 6 = .ok (.bipush 29, 2) := by decide +kernel
theorem dX8_lay_8 : decode cX8_lay 8 = .ok (.iload_n 1, 1) := by decide +kernel
theorem dX8_lay_9 : decode cX8_lay 9 = .ok (.imul, 1) := by decide +kernel
theorem dX8_lay_10 : decode cX8_lay 10 = .ok (.iadd, 1) := by decide +kernel
theorem dX8_lay_11 : decode cX8_lay 11 = .ok (.iconst 5, 1) := by decide +kernel
theorem dX8_lay_12 : decode cX8_lay 12 = .ok (.iadd, 1) := by decide +kernel
theorem dX8_lay_13 : decode cX8_lay 13 = .ok (.iload_n 2, 1) := by decide +kernel
theorem dX8_lay_14 : decode cX8_lay 14 = .ok (.iadd, 1) := by decide +kernel
theorem dX8_lay_15 : decode cX8_lay 15 = .ok (.iload_n 3, 1) := by decide +kernel
theorem dX8_lay_16 : decode cX8_lay 16 = .ok (.iastore, 1) := by decide +kernel
theorem dX8_lay_17 : decode cX8_lay 17 = .ok (.return_, 1) := by decide +kernel
theorem dX8_isPlace_0 : decode cX8_isPlace 0 = .ok (.iload_n 1, 1) := by decide +kernel
theorem dX8_isPlace_1 : decode cX8_isPlace 1 = .ok (.ifCond .lt 27, 3) := by decide +kernel
theorem dX8_isPlace_4 : decode cX8_isPlace 4 = .ok (.aload_n 0, 1) := by decide +kernel
theorem dX8_isPlace_5 : decode cX8_isPlace 5 = .ok (.iload_n 1, 1) := by decide +kernel
theorem dX8_isPlace_6 : decode cX8_isPlace 6 = .ok (.bipush 10, 2) := by decide +kernel
theorem dX8_isPlace_8 : decode cX8_isPlace 8 = .ok (.idiv, 1) := by decide +kernel
theorem dX8_isPlace_9 : decode cX8_isPlace 9 = .ok (.iconst 0, 1) := by decide +kernel
theorem dX8_isPlace_10 : decode cX8_isPlace 10 = .ok (.invokevirtual 83, 3) := by decide +kernel
theorem dX8_isPlace_13 : decode cX8_isPlace 13 = .ok (.ifCond .eq 15, 3) := by decide +kernel
theorem dX8_isPlace_16 : decode cX8_isPlace 16 = .ok (.iload_n 1, 1) := by decide +kernel
theorem dX8_isPlace_17 : decode cX8_isPlace 17 = .ok (.bipush 10, 2) := by decide +kernel
theorem dX8_isPlace_19 : decode cX8_isPlace 19 = .ok (.irem, 1) := by decide +kernel
theorem dX8_isPlace_20 : decode cX8_isPlace 20 = .ok (.iconst 4, 1) := by decide +kernel
theorem dX8_isPlace_21 : decode cX8_isPlace 21 = .ok (.if_icmp .ge 7, 3) := by decide +kernel
theorem dX8_isPlace_24 : decode cX8_isPlace 24 = .ok (.iconst 1, 1) := by decide +kernel
theorem dX8_isPlace_25 : decode cX8_isPlace 25 = .ok (.goto 4, 3) := by decide +kernel
theorem dX8_isPlace_28 : decode cX8_isPlace 28 = .ok (.iconst 0, 1) := by decide +kernel
theorem dX8_isPlace_29 : decode cX8_isPlace 29 = .ok (.ireturn, 1) := by decide +kernel
theorem dX8_curve__0 : decode cX8_curve_ 0 = .ok (.iload_n 1, 1) := by decide +kernel
theorem dX8_curve__1 : decode cX8_curve_ 1 = .ok (.iconst 0, 1) := by decide +kernel
theorem dX8_curve__2 : decode cX8_curve_ 2 = .ok (.bipush 7, 2) := by decide +kernel
theorem dX8_curve__4 : decode cX8_curve_ 4 = .ok (.invokestatic 68, 3) := by decide +kernel
theorem dX8_curve__7 : decode cX8_curve_ 7 = .ok (.ifCond .eq 29, 3) := by decide +kernel
theorem dX8_curve__10 : decode cX8_curve_ 10 = .ok (.aload_n 0, 1) := by decide +kernel
theorem dX8_curve__11 : decode cX8_curve_ 11 = .ok (.iload_n 2, 1) := by decide +kernel
theorem dX8_curve__12 : decode cX8_curve_ 12 = .ok (.invokevirtual 106, 3) := by decide +kernel
theorem dX8_curve__15 : decode cX8_curve_ 15 = .ok (.ifCond .eq 21, 3) := by decide +kernel
theorem dX8_curve__18 : decode cX8_curve_ 18 = .ok (.iload_n 3, 1) := by decide +kernel
theorem dX8_curve__19 : decode cX8_curve_ 19 = .ok (.invokestatic 110, 3) := by decide +kernel
theorem dX8_curve__22 : decode cX8_curve_ 22 = .ok (.ifCond .eq 14, 3) := by decide +kernel
theorem dX8_curve__25 : decode cX8_curve_ 25 = .ok (.iload 5, 2) := by decide +kernel
theorem dX8_curve__27 : decode cX8_curve_ 27 = .ok (.iconst 3, 1) := by decide +kernel
theorem dX8_curve__28 : decode cX8_curve_ 28 = .ok (.bipush 24, 2) := by decide +kernel
theorem dX8_curve__30 : decode cX8_curve_ 30 = .ok (.invokestatic 68, 3) := by decide +kernel
theorem dX8_curve__33 : decode cX8_curve_ 33 = .ok (.ifCond .ne 10, 3) := by decide +kernel
theorem dX8_curve__36 : decode cX8_curve_ 36 = .ok (.aload_n 0, 1) := by decide +kernel
theorem dX8_curve__37 : decode cX8_curve_ 37 = .ok (.ldc 76, 2) := by decide +kernel
theorem dX8_curve__39 : decode cX8_curve_ 39 = .ok (.invokevirtual 77, 3) := by decide +kernel
theorem dX8_curve__42 : decode cX8_curve_ 42 = .ok (.ireturn, 1) := by decide +kernel
theorem dX8_curve__43 : decode cX8_curve_ 43 = .ok (.aload_n 0, 1) := by decide +kernel
theorem dX8_curve__44 : decode cX8_curve_ 44 = .ok (.getfield 55, 3) := by decide +kernel
theorem dX8_curve__47 : decode cX8_curve_ 47 = .ok (.iload_n 3, 1) := by decide +kernel
theorem dX8_curve__48 : decode cX8_curve_ 48 = .ok (.iaload, 1) := by decide +kernel
theorem dX8_curve__49 : decode cX8_curve_ 49 = .ok (.ifCond .ne 10, 3) := by decide +kernel
theorem dX8_curve__52 : decode cX8_curve_ 52 = .ok (.aload_n 0, 1) := by decide +kernel
theorem dX8_curve__53 : decode cX8_curve_ 53 = .ok (.ldc 113, 2) := by decide +kernel
theorem dX8_curve__55 : decode cX8_curve_ 55 = .ok (.invokevirtual 77, 3) := by decide +kernel
theorem dX8_curve__58 : decode cX8_curve_ 58 = .ok (.ireturn, 1) := by decide +kernel
theorem dX8_curve__59 : decode cX8_curve_ 59 = .ok (.iload 4, 2) := by decide +kernel
theorem dX8_curve__61 : decode cX8_curve_ 61 = .ok (.ifCond .lt 21, 3) := by decide +kernel
theorem dX8_curve__64 : decode cX8_curve_ 64 = .ok (.iload 4, 2) := by decide +kernel
theorem dX8_curve__66 : decode cX8_curve_ 66 = .ok (.aload_n 0, 1) := by decide +kernel
theorem dX8_curve__67 : decode cX8_curve_ 67 = .ok (.getfield 58, 3) := by decide +kernel
theorem dX8_curve__70 : decode cX8_curve_ 70 = .ok (.iload_n 3, 1) := by decide +kernel
theorem dX8_curve__71 : decode cX8_curve_ 71 = .ok (.iaload, 1) := by decide +kernel
theorem dX8_curve__72 : decode cX8_curve_ 72 = .ok (.iload 5, 2) := by decide +kernel
theorem dX8_curve__74 : decode cX8_curve_ 74 = .ok (.isub, 1) := by decide +kernel
theorem dX8_curve__75 : decode cX8_curve_ 75 = .ok (.if_icmp .gt 7, 3) := by decide +kernel
theorem dX8_curve__78 : decode cX8_curve_ 78 = .ok (.iconst 1, 1) := by decide +kernel
theorem dX8_curve__79 : decode cX8_curve_ 79 = .ok (.goto 4, 3) := by decide +kernel
theorem dX8_curve__82 : decode cX8_curve_ 82 = .ok (.iconst 0, 1) := by decide +kernel
theorem dX8_curve__83 : decode cX8_curve_ 83 = .ok (.istore 6, 2) := by decide +kernel
theorem dX8_curve__85 : decode cX8_curve_ 85 = .ok (.iconst 0, 1) := by decide +kernel
theorem dX8_curve__86 : decode cX8_curve_ 86 = .ok (.istore 7, 2) := by decide +kernel
theorem dX8_curve__88 : decode cX8_curve_ 88 = .ok (.iload 7, 2) := by decide +kernel
theorem dX8_curve__90 : decode cX8_curve_ 90 = .ok (.iload 5, 2) := by decide +kernel
theorem dX8_curve__92 : decode cX8_curve_ 92 = .ok (.if_icmp .ge 38, 3) := by decide +kernel
theorem dX8_curve__95 : decode cX8_curve_ 95 = .ok (.iload 6, 2) := by decide +kernel
theorem dX8_curve__97 : decode cX8_curve_ 97 = .ok (.ifCond .eq 33, 3) := by decide +kernel
theorem dX8_curve__100 : decode cX8_curve_ 100 = .ok (.aload_n 0, 1) := by decide +kernel
theorem dX8_curve__101 : decode cX8_curve_ 101 = .ok (.getfield 61, 3) := by decide +kernel
theorem dX8_curve__104 : decode cX8_curve_ 104 = .ok (.bipush 24, 2) := by decide +kernel
theorem dX8_curve__106 : decode cX8_curve_ 106 = .ok (.iload_n 3, 1) := by decide +kernel
theorem dX8_curve__107 : decode cX8_curve_ 107 = .ok (.imul, 1) := by decide +kernel
theorem dX8_curve__108 : decode cX8_curve_ 108 = .ok (.iload 4, 2) := by decide +kernel
theorem dX8_curve__110 : decode cX8_curve_ 110 = .ok (.iadd, 1) := by decide +kernel
theorem dX8_curve__111 : decode cX8_curve_ 111 = .ok (.iload 7, 2) := by decide +kernel
theorem dX8_curve__113 : decode cX8_curve_ 113 = .ok (.iadd, 1) := by decide +kernel
theorem dX8_curve__114 : decode cX8_curve_ 114 = .ok (.iaload, 1) := by decide +kernel
theorem dX8_curve__115 : decode cX8_curve_ 115 = .ok (.ldc 114, 2) := by decide +kernel
theorem dX8_curve__117 : decode cX8_curve_ 117 = .ok (.ldc 115, 2) := by decide +kernel
theorem dX8_curve__119 : decode cX8_curve_ 119 = .ok (.invokestatic 68, 3) := by decide +kernel
theorem dX8_curve__122 : decode cX8_curve_ 122 = .ok (.istore 6, 2) := by decide +kernel
theorem dX8_curve__124 : decode cX8_curve_ 124 = .ok (.iinc 7 1, 3) := by decide +kernel
theorem dX8_curve__127 : decode cX8_curve_ 127 = .ok (.goto (-39), 3) := by decide +kernel
theorem dX8_curve__130 : decode cX8_curve_ 130 = .ok (.iload 6, 2) := by decide +kernel
theorem dX8_curve__132 : decode cX8_curve_ 132 = .ok (.ifCond .ne 10, 3) := by decide +kernel
theorem dX8_curve__135 : decode cX8_curve_ 135 = .ok (.aload_n 0, 1) := by decide +kernel
theorem dX8_curve__136 : decode cX8_curve_ 136 = .ok (.ldc 76, 2) := by decide +kernel
theorem dX8_curve__138 : decode cX8_curve_ 138 = .ok (.invokevirtual 77, 3) := by decide +kernel
theorem dX8_curve__141 : decode cX8_curve_ 141 = .ok (.ireturn, 1) := by decide +kernel
theorem dX8_curve__142 : decode cX8_curve_ 142 = .ok (.aload_n 0, 1) := by decide +kernel
theorem dX8_curve__143 : decode cX8_curve_ 143 = .ok (.getfield 9, 3) := by decide +kernel
theorem dX8_curve__146 : decode cX8_curve_ 146 = .ok (.iconst 1, 1) := by decide +kernel
theorem dX8_curve__147 : decode cX8_curve_ 147 = .ok (.iaload, 1) := by decide +kernel
theorem dX8_curve__148 : decode cX8_curve_ 148 = .ok (.bipush 24, 2) := by decide +kernel
theorem dX8_curve__150 : decode cX8_curve_ 150 = .ok (.if_icmp .ne 10, 3) := by decide +kernel
theorem dX8_curve__153 : decode cX8_curve_ 153 = .ok (.aload_n 0, 1) := by decide +kernel
theorem dX8_curve__154 : decode cX8_curve_ 154 = .ok (.ldc 82, 2) := by decide +kernel
theorem dX8_curve__156 : decode cX8_curve_ 156 = .ok (.invokevirtual 77, 3) := by decide +kernel
theorem dX8_curve__159 : decode cX8_curve_ 159 = .ok (.ireturn, 1) := by decide +kernel
theorem dX8_curve__160 : decode cX8_curve_ 160 = .ok (.aload_n 0, 1) := by decide +kernel
theorem dX8_curve__161 : decode cX8_curve_ 161 = .ok (.iload_n 1, 1) := by decide +kernel
theorem dX8_curve__162 : decode cX8_curve_ 162 = .ok (.iload_n 2, 1) := by decide +kernel
theorem dX8_curve__163 : decode cX8_curve_ 163 = .ok (.bipush 10, 2) := by decide +kernel
theorem dX8_curve__165 : decode cX8_curve_ 165 = .ok (.idiv, 1) := by decide +kernel
theorem dX8_curve__166 : decode cX8_curve_ 166 = .ok (.iload_n 2, 1) := by decide +kernel
theorem dX8_curve__167 : decode cX8_curve_ 167 = .ok (.bipush 10, 2) := by decide +kernel
theorem dX8_curve__169 : decode cX8_curve_ 169 = .ok (.irem, 1) := by decide +kernel
theorem dX8_curve__170 : decode cX8_curve_ 170 = .ok (.iload 5, 2) := by decide +kernel
theorem dX8_curve__172 : decode cX8_curve_ 172 = .ok (.iconst (-1), 1) := by decide +kernel
theorem dX8_curve__173 : decode cX8_curve_ 173 = .ok (.invokevirtual 116, 3) := by decide +kernel
theorem dX8_curve__176 : decode cX8_curve_ 176 = .ok (.istore 7, 2) := by decide +kernel
theorem dX8_curve__178 : decode cX8_curve_ 178 = .ok (.iconst 0, 1) := by decide +kernel
theorem dX8_curve__179 : decode cX8_curve_ 179 = .ok (.istore 8, 2) := by decide +kernel
theorem dX8_curve__181 : decode cX8_curve_ 181 = .ok (.iload 8, 2) := by decide +kernel
theorem dX8_curve__183 : decode cX8_curve_ 183 = .ok (.iload 5, 2) := by decide +kernel
theorem dX8_curve__185 : decode cX8_curve_ 185 = .ok (.if_icmp .ge 32, 3) := by decide +kernel
theorem dX8_curve__188 : decode cX8_curve_ 188 = .ok (.aload_n 0, 1) := by decide +kernel
theorem dX8_curve__189 : decode cX8_curve_ 189 = .ok (.iload 7, 2) := by decide +kernel
theorem dX8_curve__191 : decode cX8_curve_ 191 = .ok (.iload 8, 2) := by decide +kernel
theorem dX8_curve__193 : decode cX8_curve_ 193 = .ok (.aload_n 0, 1) := by decide +kernel
theorem dX8_curve__194 : decode cX8_curve_ 194 = .ok (.getfield 61, 3) := by decide +kernel
theorem dX8_curve__197 : decode cX8_curve_ 197 = .ok (.bipush 24, 2) := by decide +kernel
theorem dX8_curve__199 : decode cX8_curve_ 199 = .ok (.iload_n 3, 1) := by decide +kernel
theorem dX8_curve__200 : decode cX8_curve_ 200 = .ok (.imul, 1) := by decide +kernel
theorem dX8_curve__201 : decode cX8_curve_ 201 = .ok (.iload 4, 2) := by decide +kernel
theorem dX8_curve__203 : decode cX8_curve_ 203 = .ok (.iadd, 1) := by decide +kernel
theorem dX8_curve__204 : decode cX8_curve_ 204 = .ok (.iload 8, 2) := by decide +kernel
theorem dX8_curve__206 : decode cX8_curve_ 206 = .ok (.iadd, 1) := by decide +kernel
theorem dX8_curve__207 : decode cX8_curve_ 207 = .ok (.iaload, 1) := by decide +kernel
theorem dX8_curve__208 : decode cX8_curve_ 208 = .ok (.invokevirtual 120, 3) := by decide +kernel
theorem dX8_curve__211 : decode cX8_curve_ 211 = .ok (.iinc 8 1, 3) := by decide +kernel
theorem dX8_curve__214 : decode cX8_curve_ 214 = .ok (.goto (-33), 3) := by decide +kernel
theorem dX8_curve__217 : decode cX8_curve_ 217 = .ok (.iload 7, 2) := by decide +kernel
theorem dX8_curve__219 : decode cX8_curve_ 219 = .ok (.ireturn, 1) := by decide +kernel
theorem dX8_measure_0 : decode cX8_measure 0 = .ok (.aload_n 0, 1) := by decide +kernel
theorem dX8_measure_1 : decode cX8_measure 1 = .ok (.iload_n 1, 1) := by decide +kernel
theorem dX8_measure_2 : decode cX8_measure 2 = .ok (.invokevirtual 106, 3) := by decide +kernel
theorem dX8_measure_5 : decode cX8_measure 5 = .ok (.ifCond .eq 13, 3) := by decide +kernel
theorem dX8_measure_8 : decode cX8_measure 8 = .ok (.iload_n 2, 1) := by decide +kernel
theorem dX8_measure_9 : decode cX8_measure 9 = .ok (.iconst 3, 1) := by decide +kernel
theorem dX8_measure_10 : decode cX8_measure 10 = .ok (.bipush 24, 2) := by decide +kernel
theorem dX8_measure_12 : decode cX8_measure 12 = .ok (.invokestatic 68, 3) := by decide +kernel
theorem dX8_measure_15 : decode cX8_measure 15 = .ok (.ifCond .ne 10, 3) := by decide +kernel
theorem dX8_measure_18 : decode cX8_measure 18 = .ok (.aload_n 0, 1) := by decide +kernel
theorem dX8_measure_19 : decode cX8_measure 19 = .ok (.ldc 76, 2) := by decide +kernel
theorem dX8_measure_21 : decode cX8_measure 21 = .ok (.invokevirtual 77, 3) := by decide +kernel
theorem dX8_measure_24 : decode cX8_measure 24 = .ok (.ireturn, 1) := by decide +kernel
theorem dX8_measure_25 : decode cX8_measure 25 = .ok (.aload_n 0, 1) := by decide +kernel
theorem dX8_measure_26 : decode cX8_measure 26 = .ok (.getfield 9, 3) := by decide +kernel
theorem dX8_measure_29 : decode cX8_measure 29 = .ok (.iconst 1, 1) := by decide +kernel
theorem dX8_measure_30 : decode cX8_measure 30 = .ok (.iaload, 1) := by decide +kernel
theorem dX8_measure_31 : decode cX8_measure 31 = .ok (.bipush 24, 2) := by decide +kernel
theorem dX8_measure_33 : decode cX8_measure 33 = .ok (.if_icmp .ne 10, 3) := by decide +kernel
theorem dX8_measure_36 : decode cX8_measure 36 = .ok (.aload_n 0, 1) := by decide +kernel
theorem dX8_measure_37 : decode cX8_measure 37 = .ok (.ldc 82, 2) := by decide +kernel
theorem dX8_measure_39 : decode cX8_measure 39 = .ok (.invokevirtual 77, 3) := by decide +kernel
theorem dX8_measure_42 : decode cX8_measure 42 = .ok (.ireturn, 1) := by decide +kernel
theorem dX8_measure_43 : decode cX8_measure 43 = .ok (.iload_n 1, 1) := by decide +kernel
theorem dX8_measure_44 : decode cX8_measure 44 = .ok (.bipush 10, 2) := by decide +kernel
theorem dX8_measure_46 : decode cX8_measure 46 = .ok (.irem, 1) := by decide +kernel
theorem dX8_measure_47 : decode cX8_measure 47 = .ok (.istore_n 3, 1) := by decide +kernel
theorem dX8_measure_48 : decode cX8_measure 48 = .ok (.aload_n 0, 1) := by decide +kernel
theorem dX8_measure_49 : decode cX8_measure 49 = .ok (.iconst 1, 1) := by decide +kernel
theorem dX8_measure_50 : decode cX8_measure 50 = .ok (.iload_n 1, 1) := by decide +kernel
theorem dX8_measure_51 : decode cX8_measure 51 = .ok (.bipush 10, 2) := by decide +kernel
theorem dX8_measure_53 : decode cX8_measure 53 = .ok (.idiv, 1) := by decide +kernel
theorem dX8_measure_54 : decode cX8_measure 54 = .ok (.iload_n 3, 1) := by decide +kernel
theorem dX8_measure_55 : decode cX8_measure 55 = .ok (.iload_n 2, 1) := by decide +kernel
theorem dX8_measure_56 : decode cX8_measure 56 = .ok (.iconst (-1), 1) := by decide +kernel
theorem dX8_measure_57 : decode cX8_measure 57 = .ok (.invokevirtual 116, 3) := by decide +kernel
theorem dX8_measure_60 : decode cX8_measure 60 = .ok (.istore 4, 2) := by decide +kernel
theorem dX8_measure_62 : decode cX8_measure 62 = .ok (.iconst 0, 1) := by decide +kernel
theorem dX8_measure_63 : decode cX8_measure 63 = .ok (.istore 5, 2) := by decide +kernel
theorem dX8_measure_65 : decode cX8_measure 65 = .ok (.iload 5, 2) := by decide +kernel
theorem dX8_measure_67 : decode cX8_measure 67 = .ok (.iload_n 2, 1) := by decide +kernel
theorem dX8_measure_68 : decode cX8_measure 68 = .ok (.if_icmp .ge 75, 3) := by decide +kernel
theorem dX8_measure_71 : decode cX8_measure 71 = .ok (.aload_n 0, 1) := by decide +kernel
theorem dX8_measure_72 : decode cX8_measure 72 = .ok (.iload 4, 2) := by decide +kernel
theorem dX8_measure_74 : decode cX8_measure 74 = .ok (.iload 5, 2) := by decide +kernel
theorem dX8_measure_76 : decode cX8_measure 76 = .ok (.invokevirtual 124, 3) := by decide +kernel
theorem dX8_measure_79 : decode cX8_measure 79 = .ok (.i2l, 1) := by decide +kernel
theorem dX8_measure_80 : decode cX8_measure 80 = .ok (.lstore 6, 2) := by decide +kernel
theorem dX8_measure_82 : decode cX8_measure 82 = .ok (.aload_n 0, 1) := by decide +kernel
theorem dX8_measure_83 : decode cX8_measure 83 = .ok (.getfield 9, 3) := by decide +kernel
theorem dX8_measure_86 : decode cX8_measure 86 = .ok (.bipush 10, 2) := by decide +kernel
theorem dX8_measure_88 : decode cX8_measure 88 = .ok (.iconst 3, 1) := by decide +kernel
theorem dX8_measure_89 : decode cX8_measure 89 = .ok (.iload_n 3, 1) := by decide +kernel
theorem dX8_measure_90 : decode cX8_measure 90 = .ok (.imul, 1) := by decide +kernel
theorem dX8_measure_91 : decode cX8_measure 91 = .ok (.iadd, 1) := by decide +kernel
theorem dX8_measure_92 : decode cX8_measure 92 = .ok (.iconst 1, 1) := by decide +kernel
theorem dX8_measure_93 : decode cX8_measure 93 = .ok (.iadd, 1) := by decide +kernel
theorem dX8_measure_94 : decode cX8_measure 94 = .ok (.iaload, 1) := by decide +kernel
theorem dX8_measure_95 : decode cX8_measure 95 = .ok (.istore 8, 2) := by decide +kernel
theorem dX8_measure_97 : decode cX8_measure 97 = .ok (.aload_n 0, 1) := by decide +kernel
theorem dX8_measure_98 : decode cX8_measure 98 = .ok (.iload 4, 2) := by decide +kernel
theorem dX8_measure_100 : decode cX8_measure 100 = .ok (.iload 5, 2) := by decide +kernel
theorem dX8_measure_102 : decode cX8_measure 102 = .ok (.lload 6, 2) := by decide +kernel
theorem dX8_measure_104 : decode cX8_measure 104 = .ok (.aload_n 0, 1) := by decide +kernel
theorem dX8_measure_105 : decode cX8_measure 105 = .ok (.getfield 9, 3) := by decide +kernel
theorem dX8_measure_108 : decode cX8_measure 108 = .ok (.bipush 10, 2) := by decide +kernel
theorem dX8_measure_110 : decode cX8_measure 110 = .ok (.iconst 3, 1) := by decide +kernel
theorem dX8_measure_111 : decode cX8_measure 111 = .ok (.iload_n 3, 1) := by decide +kernel
theorem dX8_measure_112 : decode cX8_measure 112 = .ok (.imul, 1) := by decide +kernel
theorem dX8_measure_113 : decode cX8_measure 113 = .ok (.iadd, 1) := by decide +kernel
theorem dX8_measure_114 : decode cX8_measure 114 = .ok (.iaload, 1) := by decide +kernel
theorem dX8_measure_115 : decode cX8_measure 115 = .ok (.aload_n 0, 1) := by decide +kernel
theorem dX8_measure_116 : decode cX8_measure 116 = .ok (.iconst 2, 1) := by decide +kernel
theorem dX8_measure_117 : decode cX8_measure 117 = .ok (.iload 8, 2) := by decide +kernel
theorem dX8_measure_119 : decode cX8_measure 119 = .ok (.imul, 1) := by decide +kernel
theorem dX8_measure_120 : decode cX8_measure 120 = .ok (.iconst 1, 1) := by decide +kernel
theorem dX8_measure_121 : decode cX8_measure 121 = .ok (.iadd, 1) := by decide +kernel
theorem dX8_measure_122 : decode cX8_measure 122 = .ok (.invokevirtual 127, 3) := by decide +kernel
theorem dX8_measure_125 : decode cX8_measure 125 = .ok (.iload 8, 2) := by decide +kernel
theorem dX8_measure_127 : decode cX8_measure 127 = .ok (.isub, 1) := by decide +kernel
theorem dX8_measure_128 : decode cX8_measure 128 = .ok (.imul, 1) := by decide +kernel
theorem dX8_measure_129 : decode cX8_measure 129 = .ok (.i2l, 1) := by decide +kernel
theorem dX8_measure_130 : decode cX8_measure 130 = .ok (.ladd, 1) := by decide +kernel
theorem dX8_measure_131 : decode cX8_measure 131 = .ok (.invokestatic 130, 3) := by decide +kernel
theorem dX8_measure_134 : decode cX8_measure 134 = .ok (.invokevirtual 120, 3) := by decide +kernel
theorem dX8_measure_137 : decode cX8_measure 137 = .ok (.iinc 5 1, 3) := by decide +kernel
theorem dX8_measure_140 : decode cX8_measure 140 = .ok (.goto (-75), 3) := by decide +kernel
theorem dX8_measure_143 : decode cX8_measure 143 = .ok (.iload 4, 2) := by decide +kernel
theorem dX8_measure_145 : decode cX8_measure 145 = .ok (.ireturn, 1) := by decide +kernel
theorem dX8_make_0 : decode cX8_make 0 = .ok (.iload_n 1, 1) := by decide +kernel
theorem dX8_make_1 : decode cX8_make 1 = .ok (.bipush 100, 2) := by decide +kernel
theorem dX8_make_3 : decode cX8_make 3 = .ok (.irem, 1) := by decide +kernel
theorem dX8_make_4 : decode cX8_make 4 = .ok (.istore 6, 2) := by decide +kernel
theorem dX8_make_6 : decode cX8_make 6 = .ok (.iload 5, 2) := by decide +kernel
theorem dX8_make_8 : decode cX8_make 8 = .ok (.bipush 100, 2) := by decide +kernel
theorem dX8_make_10 : decode cX8_make 10 = .ok (.idiv, 1) := by decide +kernel
theorem dX8_make_11 : decode cX8_make 11 = .ok (.istore 7, 2) := by decide +kernel
theorem dX8_make_13 : decode cX8_make 13 = .ok (.iload 5, 2) := by decide +kernel
theorem dX8_make_15 : decode cX8_make 15 = .ok (.bipush 100, 2) := by decide +kernel
theorem dX8_make_17 : decode cX8_make 17 = .ok (.irem, 1) := by decide +kernel
theorem dX8_make_18 : decode cX8_make 18 = .ok (.istore 8, 2) := by decide +kernel
theorem dX8_make_20 : decode cX8_make 20 = .ok (.iload_n 1, 1) := by decide +kernel
theorem dX8_make_21 : decode cX8_make 21 = .ok (.ifCond .lt 91, 3) := by decide +kernel
theorem dX8_make_24 : decode cX8_make 24 = .ok (.aload_n 0, 1) := by decide +kernel
theorem dX8_make_25 : decode cX8_make 25 = .ok (.iload_n 1, 1) := by decide +kernel
theorem dX8_make_26 : decode cX8_make 26 = .ok (.bipush 100, 2) := by decide +kernel
theorem dX8_make_28 : decode cX8_make 28 = .ok (.idiv, 1) := by decide +kernel
theorem dX8_make_29 : decode cX8_make 29 = .ok (.iconst 0, 1) := by decide +kernel
theorem dX8_make_30 : decode cX8_make 30 = .ok (.invokevirtual 83, 3) := by decide +kernel
theorem dX8_make_33 : decode cX8_make 33 = .ok (.ifCond .eq 79, 3) := by decide +kernel
theorem dX8_make_36 : decode cX8_make 36 = .ok (.aload_n 0, 1) := by decide +kernel
theorem dX8_make_37 : decode cX8_make 37 = .ok (.iload 6, 2) := by decide +kernel
theorem dX8_make_39 : decode cX8_make 39 = .ok (.iconst 1, 1) := by decide +kernel
theorem dX8_make_40 : decode cX8_make 40 = .ok (.invokevirtual 83, 3) := by decide +kernel
theorem dX8_make_43 : decode cX8_make 43 = .ok (.ifCond .eq 69, 3) := by decide +kernel
theorem dX8_make_46 : decode cX8_make 46 = .ok (.iload_n 2, 1) := by decide +kernel
theorem dX8_make_47 : decode cX8_make 47 = .ok (.iconst 0, 1) := by decide +kernel
theorem dX8_make_48 : decode cX8_make 48 = .ok (.iconst 3, 1) := by decide +kernel
theorem dX8_make_49 : decode cX8_make 49 = .ok (.invokestatic 68, 3) := by decide +kernel
theorem dX8_make_52 : decode cX8_make 52 = .ok (.ifCond .eq 60, 3) := by decide +kernel
theorem dX8_make_55 : decode cX8_make 55 = .ok (.iload_n 3, 1) := by decide +kernel
theorem dX8_make_56 : decode cX8_make 56 = .ok (.bipush 11, 2) := by decide +kernel
theorem dX8_make_58 : decode cX8_make 58 = .ok (.bipush 55, 2) := by decide +kernel
theorem dX8_make_60 : decode cX8_make 60 = .ok (.invokestatic 68, 3) := by decide +kernel
theorem dX8_make_63 : decode cX8_make 63 = .ok (.ifCond .eq 49, 3) := by decide +kernel
theorem dX8_make_66 : decode cX8_make 66 = .ok (.iload_n 3, 1) := by decide +kernel
theorem dX8_make_67 : decode cX8_make 67 = .ok (.bipush 10, 2) := by decide +kernel
theorem dX8_make_69 : decode cX8_make 69 = .ok (.irem, 1) := by decide +kernel
theorem dX8_make_70 : decode cX8_make 70 = .ok (.iconst 1, 1) := by decide +kernel
theorem dX8_make_71 : decode cX8_make 71 = .ok (.iconst 5, 1) := by decide +kernel
theorem dX8_make_72 : decode cX8_make 72 = .ok (.invokestatic 68, 3) := by decide +kernel
theorem dX8_make_75 : decode cX8_make 75 = .ok (.ifCond .eq 37, 3) := by decide +kernel
theorem dX8_make_78 : decode cX8_make 78 = .ok (.iload 4, 2) := by decide +kernel
theorem dX8_make_80 : decode cX8_make 80 = .ok (.sipush (-999), 3) := by decide +kernel
theorem dX8_make_83 : decode cX8_make 83 = .ok (.sipush 999, 3) := by decide +kernel
theorem dX8_make_86 : decode cX8_make 86 = .ok (.invokestatic 68, 3) := by decide +kernel
theorem dX8_make_89 : decode cX8_make 89 = .ok (.ifCond .eq 23, 3) := by decide +kernel
theorem dX8_make_92 : decode cX8_make 92 = .ok (.iload 5, 2) := by decide +kernel
theorem dX8_make_94 : decode cX8_make 94 = .ok (.ifCond .lt 18, 3) := by decide +kernel
theorem dX8_make_97 : decode cX8_make 97 = .ok (.iload 8, 2) := by decide +kernel
theorem dX8_make_99 : decode cX8_make 99 = .ok (.iconst 3, 1) := by decide +kernel
theorem dX8_make_100 : decode cX8_make 100 = .ok (.bipush 24, 2) := by decide +kernel
theorem dX8_make_102 : decode cX8_make 102 = .ok (.invokestatic 68, 3) := by decide +kernel
theorem dX8_make_105 : decode cX8_make 105 = .ok (.ifCond .eq 7, 3) := by decide +kernel
theorem dX8_make_108 : decode cX8_make 108 = .ok (.iconst 1, 1) := by decide +kernel
theorem dX8_make_109 : decode cX8_make 109 = .ok (.goto 4, 3) := by decide +kernel
theorem dX8_make_112 : decode cX8_make 112 = .ok (.iconst 0, 1) := by decide +kernel
theorem dX8_make_113 : decode cX8_make 113 = .ok (.istore 9, 2) := by decide +kernel
theorem dX8_make_115 : decode cX8_make 115 = .ok (.iload 9, 2) := by decide +kernel
theorem dX8_make_117 : decode cX8_make 117 = .ok (.ifCond .eq 52, 3) := by decide +kernel
theorem dX8_make_120 : decode cX8_make 120 = .ok (.iload 7, 2) := by decide +kernel
theorem dX8_make_122 : decode cX8_make 122 = .ok (.aload_n 0, 1) := by decide +kernel
theorem dX8_make_123 : decode cX8_make 123 = .ok (.iload 6, 2) := by decide +kernel
theorem dX8_make_125 : decode cX8_make 125 = .ok (.invokevirtual 134, 3) := by decide +kernel
theorem dX8_make_128 : decode cX8_make 128 = .ok (.if_icmp .ge 41, 3) := by decide +kernel
theorem dX8_make_131 : decode cX8_make 131 = .ok (.iload_n 2, 1) := by decide +kernel
theorem dX8_make_132 : decode cX8_make 132 = .ok (.iconst 0, 1) := by decide +kernel
theorem dX8_make_133 : decode cX8_make 133 = .ok (.invokestatic 137, 3) := by decide +kernel
theorem dX8_make_136 : decode cX8_make 136 = .ok (.ifCond .eq 15, 3) := by decide +kernel
theorem dX8_make_139 : decode cX8_make 139 = .ok (.iload 7, 2) := by decide +kernel
theorem dX8_make_141 : decode cX8_make 141 = .ok (.iload 8, 2) := by decide +kernel
theorem dX8_make_143 : decode cX8_make 143 = .ok (.iconst 1, 1) := by decide +kernel
theorem dX8_make_144 : decode cX8_make 144 = .ok (.isub, 1) := by decide +kernel
theorem dX8_make_145 : decode cX8_make 145 = .ok (.if_icmp .lt 24, 3) := by decide +kernel
theorem dX8_make_148 : decode cX8_make 148 = .ok (.goto 17, 3) := by decide +kernel
theorem dX8_make_151 : decode cX8_make 151 = .ok (.iload 7, 2) := by decide +kernel
theorem dX8_make_153 : decode cX8_make 153 = .ok (.aload_n 0, 1) := by decide +kernel
theorem dX8_make_154 : decode cX8_make 154 = .ok (.iload 6, 2) := by decide +kernel
theorem dX8_make_156 : decode cX8_make 156 = .ok (.invokevirtual 134, 3) := by decide +kernel
theorem dX8_make_159 : decode cX8_make 159 = .ok (.iload 8, 2) := by decide +kernel
theorem dX8_make_161 : decode cX8_make 161 = .ok (.isub, 1) := by decide +kernel
theorem dX8_make_162 : decode cX8_make 162 = .ok (.if_icmp .gt 7, 3) := by decide +kernel
theorem dX8_make_165 : decode cX8_make 165 = .ok (.iconst 1, 1) := by decide +kernel
theorem dX8_make_166 : decode cX8_make 166 = .ok (.goto 4, 3) := by decide +kernel
theorem dX8_make_169 : decode cX8_make 169 = .ok (.iconst 0, 1) := by decide +kernel
theorem dX8_make_170 : decode cX8_make 170 = .ok (.istore 9, 2) := by decide +kernel
theorem dX8_make_172 : decode cX8_make 172 = .ok (.iload 9, 2) := by decide +kernel
theorem dX8_make_174 : decode cX8_make 174 = .ok (.ifCond .ne 10, 3) := by decide +kernel
theorem dX8_make_177 : decode cX8_make 177 = .ok (.aload_n 0, 1) := by decide +kernel
theorem dX8_make_178 : decode cX8_make 178 = .ok (.ldc 76, 2) := by decide +kernel
theorem dX8_make_180 : decode cX8_make 180 = .ok (.invokevirtual 77, 3) := by decide +kernel
theorem dX8_make_183 : decode cX8_make 183 = .ok (.ireturn, 1) := by decide +kernel
theorem dX8_make_184 : decode cX8_make 184 = .ok (.aload_n 0, 1) := by decide +kernel
theorem dX8_make_185 : decode cX8_make 185 = .ok (.getfield 9, 3) := by decide +kernel
theorem dX8_make_188 : decode cX8_make 188 = .ok (.iconst 1, 1) := by decide +kernel
theorem dX8_make_189 : decode cX8_make 189 = .ok (.iaload, 1) := by decide +kernel
theorem dX8_make_190 : decode cX8_make 190 = .ok (.bipush 24, 2) := by decide +kernel
theorem dX8_make_192 : decode cX8_make 192 = .ok (.if_icmp .ne 10, 3) := by decide +kernel
theorem dX8_make_195 : decode cX8_make 195 = .ok (.aload_n 0, 1) := by decide +kernel
theorem dX8_make_196 : decode cX8_make 196 = .ok (.ldc 82, 2) := by decide +kernel
theorem dX8_make_198 : decode cX8_make 198 = .ok (.invokevirtual 77, 3) := by decide +kernel
theorem dX8_make_201 : decode cX8_make 201 = .ok (.ireturn, 1) := by decide +kernel
theorem dX8_make_202 : decode cX8_make 202 = .ok (.aload_n 0, 1) := by decide +kernel
theorem dX8_make_203 : decode cX8_make 203 = .ok (.iconst 3, 1) := by decide +kernel
theorem dX8_make_204 : decode cX8_make 204 = .ok (.iload_n 1, 1) := by decide +kernel
theorem dX8_make_205 : decode cX8_make 205 = .ok (.bipush 100, 2) := by decide +kernel
theorem dX8_make_207 : decode cX8_make 207 = .ok (.idiv, 1) := by decide +kernel
theorem dX8_make_208 : decode cX8_make 208 = .ok (.aload_n 0, 1) := by decide +kernel
theorem dX8_make_209 : decode cX8_make 209 = .ok (.iload 6, 2) := by decide +kernel
theorem dX8_make_211 : decode cX8_make 211 = .ok (.iconst 2, 1) := by decide +kernel
theorem dX8_make_212 : decode cX8_make 212 = .ok (.invokevirtual 87, 3) := by decide +kernel
theorem dX8_make_215 : decode cX8_make 215 = .ok (.iload 8, 2) := by decide +kernel
theorem dX8_make_217 : decode cX8_make 217 = .ok (.iload 6, 2) := by decide +kernel
theorem dX8_make_219 : decode cX8_make 219 = .ok (.invokevirtual 116, 3) := by decide +kernel
theorem dX8_make_222 : decode cX8_make 222 = .ok (.istore 10, 2) := by decide +kernel
theorem dX8_make_224 : decode cX8_make 224 = .ok (.iconst 0, 1) := by decide +kernel
theorem dX8_make_225 : decode cX8_make 225 = .ok (.istore 11, 2) := by decide +kernel
theorem dX8_make_227 : decode cX8_make 227 = .ok (.iload 11, 2) := by decide +kernel
theorem dX8_make_229 : decode cX8_make 229 = .ok (.iload 8, 2) := by decide +kernel
theorem dX8_make_231 : decode cX8_make 231 = .ok (.if_icmp .ge 79, 3) := by decide +kernel
theorem dX8_make_234 : decode cX8_make 234 = .ok (.iload_n 3, 1) := by decide +kernel
theorem dX8_make_235 : decode cX8_make 235 = .ok (.bipush 10, 2) := by decide +kernel
theorem dX8_make_237 : decode cX8_make 237 = .ok (.idiv, 1) := by decide +kernel
theorem dX8_make_238 : decode cX8_make 238 = .ok (.aload_n 0, 1) := by decide +kernel
theorem dX8_make_239 : decode cX8_make 239 = .ok (.iload 6, 2) := by decide +kernel
theorem dX8_make_241 : decode cX8_make 241 = .ok (.iload_n 2, 1) := by decide +kernel
theorem dX8_make_242 : decode cX8_make 242 = .ok (.iconst 0, 1) := by decide +kernel
theorem dX8_make_243 : decode cX8_make 243 = .ok (.invokestatic 137, 3) := by decide +kernel
theorem dX8_make_246 : decode cX8_make 246 = .ok (.ifCond .eq 11, 3) := by decide +kernel
theorem dX8_make_249 : decode cX8_make 249 = .ok (.iload 7, 2) := by decide +kernel
theorem dX8_make_251 : decode cX8_make 251 = .ok (.iload 11, 2) := by decide +kernel
theorem dX8_make_253 : decode cX8_make 253 = .ok (.isub, 1) := by decide +kernel
theorem dX8_make_254 : decode cX8_make 254 = .ok (.goto 8, 3) := by decide +kernel
theorem dX8_make_257 : decode cX8_make 257 = .ok (.iload 7, 2) := by decide +kernel
theorem dX8_make_259 : decode cX8_make 259 = .ok (.iload 11, 2) := by decide +kernel
theorem dX8_make_261 : decode cX8_make 261 = .ok (.iadd, 1) := by decide +kernel
theorem dX8_make_262 : decode cX8_make 262 = .ok (.invokevirtual 140, 3) := by decide +kernel
theorem dX8_make_265 : decode cX8_make 265 = .ok (.imul, 1) := by decide +kernel
theorem dX8_make_266 : decode cX8_make 266 = .ok (.iload_n 3, 1) := by decide +kernel
theorem dX8_make_267 : decode cX8_make 267 = .ok (.bipush 10, 2) := by decide +kernel
theorem dX8_make_269 : decode cX8_make 269 = .ok (.irem, 1) := by decide +kernel
theorem dX8_make_270 : decode cX8_make 270 = .ok (.idiv, 1) := by decide +kernel
theorem dX8_make_271 : decode cX8_make 271 = .ok (.istore 12, 2) := by decide +kernel
theorem dX8_make_273 : decode cX8_make 273 = .ok (.aload_n 0, 1) := by decide +kernel
theorem dX8_make_274 : decode cX8_make 274 = .ok (.iload 10, 2) := by decide +kernel
theorem dX8_make_276 : decode cX8_make 276 = .ok (.iload 11, 2) := by decide +kernel
theorem dX8_make_278 : decode cX8_make 278 = .ok (.iload_n 2, 1) := by decide +kernel
theorem dX8_make_279 : decode cX8_make 279 = .ok (.iconst 1, 1) := by decide +kernel
theorem dX8_make_280 : decode cX8_make 280 = .ok (.invokestatic 137, 3) := by decide +kernel
theorem dX8_make_283 : decode cX8_make 283 = .ok (.ifCond .eq 9, 3) := by decide +kernel
theorem dX8_make_286 : decode cX8_make 286 = .ok (.iload 12, 2) := by decide +kernel
theorem dX8_make_288 : decode cX8_make 288 = .ok (.ineg, 1) := by decide +kernel
theorem dX8_make_289 : decode cX8_make 289 = .ok (.goto 5, 3) := by decide +kernel
theorem dX8_make_292 : decode cX8_make 292 = .ok (.iload 12, 2) := by decide +kernel
theorem dX8_make_294 : decode cX8_make 294 = .ok (.iload 4, 2) := by decide +kernel
theorem dX8_make_296 : decode cX8_make 296 = .ok (.iadd, 1) := by decide +kernel
theorem dX8_make_297 : decode cX8_make 297 = .ok (.i2l, 1) := by decide +kernel
theorem dX8_make_298 : decode cX8_make 298 = .ok (.invokestatic 130, 3) := by decide +kernel
theorem dX8_make_301 : decode cX8_make 301 = .ok (.invokevirtual 120, 3) := by decide +kernel
theorem dX8_make_304 : decode cX8_make 304 = .ok (.iinc 11 1, 3) := by decide +kernel
theorem dX8_make_307 : decode cX8_make 307 = .ok (.goto (-80), 3) := by decide +kernel
theorem dX8_make_310 : decode cX8_make 310 = .ok (.iload 10, 2) := by decide +kernel
theorem dX8_make_312 : decode cX8_make 312 = .ok (.ireturn, 1) := by decide +kernel
theorem dX8_curveIs_0 : decode cX8_curveIs 0 = .ok (.aload_n 0, 1) := by decide +kernel
theorem dX8_curveIs_1 : decode cX8_curveIs 1 = .ok (.iload_n 1, 1) := by decide +kernel
theorem dX8_curveIs_2 : decode cX8_curveIs 2 = .ok (.iconst 1, 1) := by decide +kernel
theorem dX8_curveIs_3 : decode cX8_curveIs 3 = .ok (.invokevirtual 83, 3) := by decide +kernel
theorem dX8_curveIs_6 : decode cX8_curveIs 6 = .ok (.ifCond .eq 21, 3) := by decide +kernel
theorem dX8_curveIs_9 : decode cX8_curveIs 9 = .ok (.iload_n 2, 1) := by decide +kernel
theorem dX8_curveIs_10 : decode cX8_curveIs 10 = .ok (.iconst 0, 1) := by decide +kernel
theorem dX8_curveIs_11 : decode cX8_curveIs 11 = .ok (.iconst 4, 1) := by decide +kernel
theorem dX8_curveIs_12 : decode cX8_curveIs 12 = .ok (.invokestatic 68, 3) := by decide +kernel
theorem dX8_curveIs_15 : decode cX8_curveIs 15 = .ok (.ifCond .eq 12, 3) := by decide +kernel
theorem dX8_curveIs_18 : decode cX8_curveIs 18 = .ok (.aload_n 0, 1) := by decide +kernel
theorem dX8_curveIs_19 : decode cX8_curveIs 19 = .ok (.iload_n 1, 1) := by decide +kernel
theorem dX8_curveIs_20 : decode cX8_curveIs 20 = .ok (.iload_n 2, 1) := by decide +kernel
theorem dX8_curveIs_21 : decode cX8_curveIs 21 = .ok (.invokevirtual 87, 3) := by decide +kernel
theorem dX8_curveIs_24 : decode cX8_curveIs 24 = .ok (.goto 9, 3) := by decide +kernel
theorem dX8_curveIs_27 : decode cX8_curveIs 27 = .ok (.aload_n 0, 1) := by decide +kernel
theorem dX8_curveIs_28 : decode cX8_curveIs 28 = .ok (.ldc 76, 2) := by decide +kernel
theorem dX8_curveIs_30 : decode cX8_curveIs 30 = .ok (.invokevirtual 77, 3) := by decide +kernel
theorem dX8_curveIs_33 : decode cX8_curveIs 33 = .ok (.ireturn, 1) := by decide +kernel
theorem dX8_above_0 : decode cX8_above 0 = .ok (.iload_n 0, 1) := by decide +kernel
theorem dX8_above_1 : decode cX8_above 1 = .ok (.ifCond .ne 7, 3) := by decide +kernel
theorem dX8_above_4 : decode cX8_above 4 = .ok (.iconst (-1), 1) := by decide +kernel
theorem dX8_above_5 : decode cX8_above 5 = .ok (.goto 38, 3) := by decide +kernel
theorem dX8_above_8 : decode cX8_above 8 = .ok (.iload_n 0, 1) := by decide +kernel
theorem dX8_above_9 : decode cX8_above 9 = .ok (.iconst 2, 1) := by decide +kernel
theorem dX8_above_10 : decode cX8_above 10 = .ok (.if_icmp .eq 9, 3) := by decide +kernel
theorem dX8_above_13 : decode cX8_above 13 = .ok (.iload_n 0, 1) := by decide +kernel
theorem dX8_above_14 : decode cX8_above 14 = .ok (.bipush 6, 2) := by decide +kernel
theorem dX8_above_16 : decode cX8_above 16 = .ok (.if_icmp .ne 7, 3) := by decide +kernel
theorem dX8_above_19 : decode cX8_above 19 = .ok (.iconst 1, 1) := by decide +kernel
theorem dX8_above_20 : decode cX8_above 20 = .ok (.goto 23, 3) := by decide +kernel
theorem dX8_above_23 : decode cX8_above 23 = .ok (.iload_n 0, 1) := by decide +kernel
theorem dX8_above_24 : decode cX8_above 24 = .ok (.iconst 5, 1) := by decide +kernel
theorem dX8_above_25 : decode cX8_above 25 = .ok (.if_icmp .ne 7, 3) := by decide +kernel
theorem dX8_above_28 : decode cX8_above 28 = .ok (.iconst 3, 1) := by decide +kernel
theorem dX8_above_29 : decode cX8_above 29 = .ok (.goto 14, 3) := by decide +kernel
theorem dX8_above_32 : decode cX8_above 32 = .ok (.iload_n 0, 1) := by decide +kernel
theorem dX8_above_33 : decode cX8_above 33 = .ok (.bipush 7, 2) := by decide +kernel
theorem dX8_above_35 : decode cX8_above 35 = .ok (.if_icmp .ne 7, 3) := by decide +kernel
theorem dX8_above_38 : decode cX8_above 38 = .ok (.iconst 4, 1) := by decide +kernel
theorem dX8_above_39 : decode cX8_above 39 = .ok (.goto 4, 3) := by decide +kernel
theorem dX8_above_42 : decode cX8_above 42 = .ok (.iconst 0, 1) := by decide +kernel
theorem dX8_above_43 : decode cX8_above 43 = .ok (.ireturn, 1) := by decide +kernel
