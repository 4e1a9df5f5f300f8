theorem dX5_init_0 : decode cX5_init 0 = .ok (.aload_n 0, 1) := by decide +kernel
theorem dX5_init_1 : decode cX5_init 1 = .ok (.invokespecial 1, 3) := by decide +kernel
theorem dX5_init_4 : decode cX5_init 4 = .ok (.aload_n 0, 1) := by decide +kernel
theorem dX5_init_5 : decode cX5_init 5 = .ok (.bipush 120, 2) := by decide +kernel
theorem dX5_init_7 : decode cX5_init 7 = .ok (.newarray .char, 2) := by decide +kernel
theorem dX5_init_9 : decode cX5_init 9 = .ok (.putfield 7, 3) := by decide +kernel
theorem dX5_init_12 : decode cX5_init 12 = .ok (.aload_n 0, 1) := by decide +kernel
theorem dX5_init_13 : decode cX5_init 13 = .ok (.bipush 7, 2) := by decide +kernel
theorem dX5_init_15 : decode cX5_init 15 = .ok (.newarray .boolean, 2) := by decide +kernel
theorem dX5_init_17 : decode cX5_init 17 = .ok (.putfield 13, 3) := by decide +kernel
theorem dX5_init_20 : decode cX5_init 20 = .ok (.aload_n 0, 1) := by decide +kernel
theorem dX5_init_21 : decode cX5_init 21 = .ok (.bipush 7, 2) := by decide +kernel
theorem dX5_init_23 : decode cX5_init 23 = .ok (.newarray .int, 2) := by decide +kernel
theorem dX5_init_25 : decode cX5_init 25 = .ok (.putfield 17, 3) := by decide +kernel
theorem dX5_init_28 : decode cX5_init 28 = .ok (.aload_n 0, 1) := by decide +kernel
theorem dX5_init_29 : decode cX5_init 29 = .ok (.bipush 42, 2) := by decide +kernel
theorem dX5_init_31 : decode cX5_init 31 = .ok (.newarray .int, 2) := by decide +kernel
theorem dX5_init_33 : decode cX5_init 33 = .ok (.putfield 21, 3) := by decide +kernel
theorem dX5_init_36 : decode cX5_init 36 = .ok (.aload_n 0, 1) := by decide +kernel
theorem dX5_init_37 : decode cX5_init 37 = .ok (.bipush 42, 2) := by decide +kernel
theorem dX5_init_39 : decode cX5_init 39 = .ok (.newarray .int, 2) := by decide +kernel
theorem dX5_init_41 : decode cX5_init 41 = .ok (.putfield 24, 3) := by decide +kernel
theorem dX5_init_44 : decode cX5_init 44 = .ok (.aload_n 0, 1) := by decide +kernel
theorem dX5_init_45 : decode cX5_init 45 = .ok (.bipush 42, 2) := by decide +kernel
theorem dX5_init_47 : decode cX5_init 47 = .ok (.newarray .boolean, 2) := by decide +kernel
theorem dX5_init_49 : decode cX5_init 49 = .ok (.putfield 27, 3) := by decide +kernel
theorem dX5_init_52 : decode cX5_init 52 = .ok (.aload_n 0, 1) := by decide +kernel
theorem dX5_init_53 : decode cX5_init 53 = .ok (.bipush 42, 2) := by decide +kernel
theorem dX5_init_55 : decode cX5_init 55 = .ok (.newarray .int, 2) := by decide +kernel
theorem dX5_init_57 : decode cX5_init 57 = .ok (.putfield 30, 3) := by decide +kernel
theorem dX5_init_60 : decode cX5_init 60 = .ok (.aload_n 0, 1) := by decide +kernel
theorem dX5_init_61 : decode cX5_init 61 = .ok (.bipush 126, 2) := by decide +kernel
theorem dX5_init_63 : decode cX5_init 63 = .ok (.newarray .boolean, 2) := by decide +kernel
theorem dX5_init_65 : decode cX5_init 65 = .ok (.putfield 33, 3) := by decide +kernel
theorem dX5_init_68 : decode cX5_init 68 = .ok (.aload_n 0, 1) := by decide +kernel
theorem dX5_init_69 : decode cX5_init 69 = .ok (.bipush 42, 2) := by decide +kernel
theorem dX5_init_71 : decode cX5_init 71 = .ok (.newarray .boolean, 2) := by decide +kernel
theorem dX5_init_73 : decode cX5_init 73 = .ok (.putfield 36, 3) := by decide +kernel
theorem dX5_init_76 : decode cX5_init 76 = .ok (.aload_n 0, 1) := by decide +kernel
theorem dX5_init_77 : decode cX5_init 77 = .ok (.bipush 42, 2) := by decide +kernel
theorem dX5_init_79 : decode cX5_init 79 = .ok (.newarray .int, 2) := by decide +kernel
theorem dX5_init_81 : decode cX5_init 81 = .ok (.putfield 39, 3) := by decide +kernel
theorem dX5_init_84 : decode cX5_init 84 = .ok (.aload_n 0, 1) := by decide +kernel
theorem dX5_init_85 : decode cX5_init 85 = .ok (.bipush 42, 2) := by decide +kernel
theorem dX5_init_87 : decode cX5_init 87 = .ok (.newarray .int, 2) := by decide +kernel
theorem dX5_init_89 : decode cX5_init 89 = .ok (.putfield 42, 3) := by decide +kernel
theorem dX5_init_92 : decode cX5_init 92 = .ok (.aload_n 0, 1) := by decide +kernel
theorem dX5_init_93 : decode cX5_init 93 = .ok (.sipush 910, 3) := by decide +kernel
theorem dX5_init_96 : decode cX5_init 96 = .ok (.newarray .int, 2) := by decide +kernel
theorem dX5_init_98 : decode cX5_init 98 = .ok (.putfield 45, 3) := by decide +kernel
theorem dX5_init_101 : decode cX5_init 101 = .ok (.aload_n 0, 1) := by decide +kernel
theorem dX5_init_102 : decode cX5_init 102 = .ok (.sipush 910, 3) := by decide +kernel
theorem dX5_init_105 : decode cX5_init 105 = .ok (.newarray .int, 2) := by decide +kernel
theorem dX5_init_107 : decode cX5_init 107 = .ok (.putfield 48, 3) := by decide +kernel
theorem dX5_init_110 : decode cX5_init 110 = .ok (.aload_n 0, 1) := by decide +kernel
theorem dX5_init_111 : decode cX5_init 111 = .ok (.sipush 910, 3) := by decide +kernel
theorem dX5_init_114 : decode cX5_init 114 = .ok (.newarray .int, 2) := by decide +kernel
theorem dX5_init_116 : decode cX5_init 116 = .ok (.putfield 51, 3) := by decide +kernel
theorem dX5_init_119 : decode cX5_init 119 = .ok (.aload_n 0, 1) := by decide +kernel
theorem dX5_init_120 : decode cX5_init 120 = .ok (.bipush 10, 2) := by decide +kernel
theorem dX5_init_122 : decode cX5_init 122 = .ok (.newarray .int, 2) := by decide +kernel
theorem dX5_init_124 : decode cX5_init 124 = .ok (.putfield 54, 3) := by decide +kernel
theorem dX5_init_127 : decode cX5_init 127 = .ok (.aload_n 0, 1) := by decide +kernel
theorem dX5_init_128 : decode cX5_init 128 = .ok (.bipush 10, 2) := by decide +kernel
theorem dX5_init_130 : decode cX5_init 130 = .ok (.newarray .int, 2) := by decide +kernel
theorem dX5_init_132 : decode cX5_init 132 = .ok (.putfield 57, 3) := by decide +kernel
theorem dX5_init_135 : decode cX5_init 135 = .ok (.aload_n 0, 1) := by decide +kernel
theorem dX5_init_136 : decode cX5_init 136 = .ok (.bipush 10, 2) := by decide +kernel
theorem dX5_init_138 : decode cX5_init 138 = .ok (.newarray .int, 2) := by decide +kernel
theorem dX5_init_140 : decode cX5_init 140 = .ok (.putfield 60, 3) := by decide +kernel
theorem dX5_init_143 : decode cX5_init 143 = .ok (.aload_n 0, 1) := by decide +kernel
theorem dX5_init_144 : decode cX5_init 144 = .ok (.bipush 10, 2) := by decide +kernel
theorem dX5_init_146 : decode cX5_init 146 = .ok (.newarray .boolean, 2) := by decide +kernel
theorem dX5_init_148 : decode cX5_init 148 = .ok (.putfield 63, 3) := by decide +kernel
theorem dX5_init_151 : decode cX5_init 151 = .ok (.aload_n 0, 1) := by decide +kernel
theorem dX5_init_152 : decode cX5_init 152 = .ok (.bipush 10, 2) := by decide +kernel
theorem dX5_init_154 : decode cX5_init 154 = .ok (.newarray .boolean, 2) := by decide +kernel
theorem dX5_init_156 : decode cX5_init 156 = .ok (.putfield 66, 3) := by decide +kernel
theorem dX5_init_159 : decode cX5_init 159 = .ok (.aload_n 0, 1) := by decide +kernel
theorem dX5_init_160 : decode cX5_init 160 = .ok (.bipush 10, 2) := by decide +kernel
theorem dX5_init_162 : decode cX5_init 162 = .ok (.newarray .int, 2) := by decide +kernel
theorem dX5_init_164 : decode cX5_init 164 = .ok (.putfield 69, 3) := by decide +kernel
theorem dX5_init_167 : decode cX5_init 167 = .ok (.aload_n 0, 1) := by decide +kernel
theorem dX5_init_168 : decode cX5_init 168 = .ok (.bipush 10, 2) := by decide +kernel
theorem dX5_init_170 : decode cX5_init 170 = .ok (.newarray .int, 2) := by decide +kernel
theorem dX5_init_172 : decode cX5_init 172 = .ok (.putfield 72, 3) := by decide +kernel
theorem dX5_init_175 : decode cX5_init 175 = .ok (.aload_n 0, 1) := by decide +kernel
theorem dX5_init_176 : decode cX5_init 176 = .ok (.iconst (-1), 1) := by decide +kernel
theorem dX5_init_177 : decode cX5_init 177 = .ok (.putfield 75, 3) := by decide +kernel
theorem dX5_init_180 : decode cX5_init 180 = .ok (.aload_n 0, 1) := by decide +kernel
theorem dX5_init_181 : decode cX5_init 181 = .ok (.iconst (-1), 1) := by decide +kernel
theorem dX5_init_182 : decode cX5_init 182 = .ok (.putfield 79, 3) := by decide +kernel
theorem dX5_init_185 : decode cX5_init 185 = .ok (.aload_n 0, 1) := by decide +kernel
theorem dX5_init_186 : decode cX5_init 186 = .ok (.sipush 1600, 3) := by decide +kernel
theorem dX5_init_189 : decode cX5_init 189 = .ok (.newarray .int, 2) := by decide +kernel
theorem dX5_init_191 : decode cX5_init 191 = .ok (.putfield 82, 3) := by decide +kernel
theorem dX5_init_194 : decode cX5_init 194 = .ok (.aload_n 0, 1) := by decide +kernel
theorem dX5_init_195 : decode cX5_init 195 = .ok (.sipush 260, 3) := by decide +kernel
theorem dX5_init_198 : decode cX5_init 198 = .ok (.newarray .int, 2) := by decide +kernel
theorem dX5_init_200 : decode cX5_init 200 = .ok (.putfield 85, 3) := by decide +kernel
theorem dX5_init_203 : decode cX5_init 203 = .ok (.aload_n 0, 1) := by decide +kernel
theorem dX5_init_204 : decode cX5_init 204 = .ok (.sipush 260, 3) := by decide +kernel
theorem dX5_init_207 : decode cX5_init 207 = .ok (.newarray .int, 2) := by decide +kernel
theorem dX5_init_209 : decode cX5_init 209 = .ok (.putfield 88, 3) := by decide +kernel
theorem dX5_init_212 : decode cX5_init 212 = .ok (.aload_n 0, 1) := by decide +kernel
theorem dX5_init_213 : decode cX5_init 213 = .ok (.sipush 260, 3) := by decide +kernel
theorem dX5_init_216 : decode cX5_init 216 = .ok (.newarray .int, 2) := by decide +kernel
theorem dX5_init_218 : decode cX5_init 218 = .ok (.putfield 91, 3) := by decide +kernel
theorem dX5_init_221 : decode cX5_init 221 = .ok (.aload_n 0, 1) := by decide +kernel
theorem dX5_init_222 : decode cX5_init 222 = .ok (.sipush 260, 3) := by decide +kernel
theorem dX5_init_225 : decode cX5_init 225 = .ok (.newarray .int, 2) := by decide +kernel
theorem dX5_init_227 : decode cX5_init 227 = .ok (.putfield 94, 3) := by decide +kernel
theorem dX5_init_230 : decode cX5_init 230 = .ok (.aload_n 0, 1) := by decide +kernel
theorem dX5_init_231 : decode cX5_init 231 = .ok (.sipush 260, 3) := by decide +kernel
theorem dX5_init_234 : decode cX5_init 234 = .ok (.newarray .int, 2) := by decide +kernel
theorem dX5_init_236 : decode cX5_init 236 = .ok (.putfield 97, 3) := by decide +kernel
theorem dX5_init_239 : decode cX5_init 239 = .ok (.aload_n 0, 1) := by decide +kernel
theorem dX5_init_240 : decode cX5_init 240 = .ok (.iload_n 1, 1) := by decide +kernel
theorem dX5_init_241 : decode cX5_init 241 = .ok (.bipush 8, 2) := by decide +kernel
theorem dX5_init_243 : decode cX5_init 243 = .ok (.if_icmp .ge 8, 3) := by decide +kernel
theorem dX5_init_246 : decode cX5_init 246 = .ok (.bipush 8, 2) := by decide +kernel
theorem dX5_init_248 : decode cX5_init 248 = .ok (.goto 17, 3) := by decide +kernel
theorem dX5_init_251 : decode cX5_init 251 = .ok (.iload_n 1, 1) := by decide +kernel
theorem dX5_init_252 : decode cX5_init 252 = .ok (.sipush 500, 3) := by decide +kernel
theorem dX5_init_255 : decode cX5_init 255 = .ok (.if_icmp .le 9, 3) := by decide +kernel
theorem dX5_init_258 : decode cX5_init 258 = .ok (.sipush 500, 3) := by decide +kernel
theorem dX5_init_261 : decode cX5_init 261 = .ok (.goto 4, 3) := by decide +kernel
theorem dX5_init_264 : decode cX5_init 264 = .ok (.iload_n 1, 1) := by decide +kernel
theorem dX5_init_265 : decode cX5_init 265 = .ok (.putfield 100, 3) := by decide +kernel
theorem dX5_init_268 : decode cX5_init 268 = .ok (.return_, 1) := by decide +kernel
theorem dX5_thrown_0 : decode cX5_thrown 0 = .ok (.aload_n 0, 1) := by decide +kernel
theorem dX5_thrown_1 : decode cX5_thrown 1 = .ok (.getfield 103, 3) := by decide +kernel
theorem dX5_thrown_4 : decode cX5_thrown 4 = .ok (.ireturn, 1) := by decide +kernel
theorem dX5_refuse_0 : decode cX5_refuse 0 = .ok (.aload_n 0, 1) := by decide +kernel
theorem dX5_refuse_1 : decode cX5_refuse 1 = .ok (.iload_n 1, 1) := by decide +kernel
theorem dX5_refuse_2 : decode cX5_refuse 2 = .ok (.putfield 103, 3) := by decide +kernel
theorem dX5_refuse_5 : decode cX5_refuse 5 = .ok (.iconst 0, 1) := by decide +kernel
theorem dX5_refuse_6 : decode cX5_refuse 6 = .ok (.ireturn, 1) := by decide +kernel
theorem dX5_outside_0 : decode cX5_outside 0 = .ok (.iload_n 0, 1) := by decide +kernel
theorem dX5_outside_1 : decode cX5_outside 1 = .ok (.iload_n 1, 1) := by decide +kernel
theorem dX5_outside_2 : decode cX5_outside 2 = .ok (.if_icmp .lt 8, 3) := by decide +kernel
theorem dX5_outside_5 : decode cX5_outside 5 = .ok (.iload_n 0, 1) := by decide +kernel
theorem dX5_outside_6 : decode cX5_outside 6 = .ok (.iload_n 2, 1) := by decide +kernel
theorem dX5_outside_7 : decode cX5_outside 7 = .ok (.if_icmp .le 7, 3) := by decide +kernel
theorem dX5_outside_10 : decode cX5_outside 10 = .ok (.iconst 1, 1) := by decide +kernel
theorem dX5_outside_11 : decode cX5_outside 11 = .ok (.goto 4, 3) := by decide +kernel
theorem dX5_outside_14 : decode cX5_outside 14 = .ok (.iconst 0, 1) := by decide +kernel
theorem dX5_outside_15 : decode cX5_outside 15 = .ok (.ireturn, 1) := by decide +kernel
theorem dX5_put_0 : decode cX5_put 0 = .ok (.aload_n 0, 1) := by decide +kernel
theorem dX5_put_1 : decode cX5_put 1 = .ok (.iconst 0, 1) := by decide +kernel
theorem dX5_put_2 : decode cX5_put 2 = .ok (.putfield 103, 3) := by decide +kernel
theorem dX5_put_5 : decode cX5_put 5 = .ok (.iload_n 2, 1) := by decide +kernel
theorem dX5_put_6 : decode cX5_put 6 = .ok (.iconst 1, 1) := by decide +kernel
theorem dX5_put_7 : decode cX5_put 7 = .ok (.iconst 4, 1) := by decide +kernel
theorem dX5_put_8 : decode cX5_put 8 = .ok (.invokestatic 106, 3) := by decide +kernel
theorem dX5_put_11 : decode cX5_put 11 = .ok (.ifCond .ne 14, 3) := by decide +kernel
theorem dX5_put_14 : decode cX5_put 14 = .ok (.aload_n 0, 1) := by decide +kernel
theorem dX5_put_15 : decode cX5_put 15 = .ok (.getfield 110, 3) := by decide +kernel
theorem dX5_put_18 : decode cX5_put 18 = .ok (.iload_n 2, 1) := by decide +kernel
theorem dX5_put_19 : decode cX5_put 19 = .ok (.iadd, 1) := by decide +kernel
theorem dX5_put_20 : decode cX5_put 20 = .ok (.bipush 120, 2) := by decide +kernel
theorem dX5_put_22 : decode cX5_put 22 = .ok (.if_icmp .le 5, 3) := by decide +kernel
theorem dX5_put_25 : decode cX5_put 25 = .ok (.iconst 0, 1) := by decide +kernel
theorem dX5_put_26 : decode cX5_put 26 = .ok (.ireturn, 1) := by decide +kernel
theorem dX5_put_27 : decode cX5_put 27 = .ok (.iconst 0, 1) := by decide +kernel
theorem dX5_put_28 : decode cX5_put 28 = .ok (.istore_n 3, 1) := by decide +kernel
theorem dX5_put_29 : decode cX5_put 29 = .ok (.iload_n 3, 1) := by decide +kernel
theorem dX5_put_30 : decode cX5_put 30 = .ok (.iload_n 2, 1) := by decide +kernel
theorem dX5_put_31 : decode cX5_put 31 = .ok (.if_icmp .ge 31, 3) := by decide +kernel
theorem dX5_put_34 : decode cX5_put 34 = .ok (.iload_n 1, 1) := by decide +kernel
theorem dX5_put_35 : decode cX5_put 35 = .ok (.bipush 8, 2) := by decide +kernel
theorem dX5_put_37 : decode cX5_put 37 = .ok (.iload_n 3, 1) := by decide +kernel
theorem dX5_put_38 : decode cX5_put 38 = .ok (.imul, 1) := by decide +kernel
theorem dX5_put_39 : decode cX5_put 39 = .ok (.ishr, 1) := by decide +kernel
theorem dX5_put_40 : decode cX5_put 40 = .ok (.sipush 255, 3) := by decide +kernel
theorem dX5_put_43 : decode cX5_put 43 = .ok (.iand, 1) := by decide +kernel
theorem dX5_put_44 : decode cX5_put 44 = .ok (.bipush 32, 2) := by decide +kernel
theorem dX5_put_46 : decode cX5_put 46 = .ok (.bipush 126, 2) := by decide +kernel
theorem dX5_put_48 : decode cX5_put 48 = .ok (.invokestatic 106, 3) := by decide +kernel
theorem dX5_put_51 : decode cX5_put 51 = .ok (.ifCond .eq 5, 3) := by decide +kernel
theorem dX5_put_54 : decode cX5_put 54 = .ok (.iconst 0, 1) := by decide +kernel
theorem dX5_put_55 : decode cX5_put 55 = .ok (.ireturn, 1) := by decide +kernel
theorem dX5_put_56 : decode cX5_put 56 = .ok (.iinc 3 1, 3) := by decide +kernel
theorem dX5_put_59 : decode cX5_put 59 = .ok (.goto (-30), 3) := by decide +kernel
theorem dX5_put_62 : decode cX5_put 62 = .ok (.iload_n 2, 1) := by decide +kernel
theorem dX5_put_63 : decode cX5_put 63 = .ok (.iconst 1, 1) := by decide +kernel
theorem dX5_put_64 : decode cX5_put 64 = .ok (.isub, 1) := by decide +kernel
theorem dX5_put_65 : decode cX5_put 65 = .ok (.istore_n 3, 1) := by decide +kernel
theorem dX5_put_66 : decode cX5_put 66 = .ok (.iload_n 3, 1) := by decide +kernel
theorem dX5_put_67 : decode cX5_put 67 = .ok (.ifCond .lt 39, 3) := by decide +kernel
theorem dX5_put_70 : decode cX5_put 70 = .ok (.aload_n 0, 1) := by decide +kernel
theorem dX5_put_71 : decode cX5_put 71 = .ok (.getfield 7, 3) := by decide +kernel
theorem dX5_put_74 : decode cX5_put 74 = .ok (.aload_n 0, 1) := by decide +kernel
theorem dX5_put_75 : decode cX5_put 75 = .ok (.getfield 110, 3) := by decide +kernel
theorem dX5_put_78 : decode cX5_put 78 = .ok (.iload_n 1, 1) := by decide +kernel
theorem dX5_put_79 : decode cX5_put 79 = .ok (.bipush 8, 2) := by decide +kernel
theorem dX5_put_81 : decode cX5_put 81 = .ok (.iload_n 3, 1) := by decide +kernel
theorem dX5_put_82 : decode cX5_put 82 = .ok (.imul, 1) := by decide +kernel
theorem dX5_put_83 : decode cX5_put 83 = .ok (.ishr, 1) := by decide +kernel
theorem dX5_put_84 : decode cX5_put 84 = .ok (.sipush 255, 3) := by decide +kernel
theorem dX5_put_87 : decode cX5_put 87 = .ok (.iand, 1) := by decide +kernel
theorem dX5_put_88 : decode cX5_put 88 = .ok (.i2c, 1) := by decide +kernel
theorem dX5_put_89 : decode cX5_put 89 = .ok (.castore, 1) := by decide +kernel
theorem dX5_put_90 : decode cX5_put 90 = .ok (.aload_n 0, 1) := by decide +kernel
theorem dX5_put_91 : decode cX5_put 91 = .ok (.dup, 1) := by decide +kernel
theorem dX5_put_92 : decode cX5_put 92 = .ok (.getfield 110, 3) := by decide +kernel
theorem dX5_put_95 : decode cX5_put 95 = .ok (.iconst 1, 1) := by decide +kernel
theorem dX5_put_96 : decode cX5_put 96 = .ok (.iadd, 1) := by decide +kernel
theorem dX5_put_97 : decode cX5_put 97 = .ok (.putfield 110, 3) := by decide +kernel
theorem dX5_put_100 : decode cX5_put 100 = .ok (.iinc 3 (-1), 3) := by decide +kernel
theorem dX5_put_103 : decode cX5_put 103 = .ok (.goto (-37), 3) := by decide +kernel
theorem dX5_put_106 : decode cX5_put 106 = .ok (.iconst 1, 1) := by decide +kernel
theorem dX5_put_107 : decode cX5_put 107 = .ok (.ireturn, 1) := by decide +kernel
theorem dX5_look_0 : decode cX5_look 0 = .ok (.aload_n 0, 1) := by decide +kernel
theorem dX5_look_1 : decode cX5_look 1 = .ok (.getfield 113, 3) := by decide +kernel
theorem dX5_look_4 : decode cX5_look 4 = .ok (.aload_n 0, 1) := by decide +kernel
theorem dX5_look_5 : decode cX5_look 5 = .ok (.getfield 110, 3) := by decide +kernel
theorem dX5_look_8 : decode cX5_look 8 = .ok (.if_icmp .ge 15, 3) := by decide +kernel
theorem dX5_look_11 : decode cX5_look 11 = .ok (.aload_n 0, 1) := by decide +kernel
theorem dX5_look_12 : decode cX5_look 12 = .ok (.getfield 7, 3) := by decide +kernel
theorem dX5_look_15 : decode cX5_look 15 = .ok (.aload_n 0, 1) := by decide +kernel
theorem dX5_look_16 : decode cX5_look 16 = .ok (.getfield 113, 3) := by decide +kernel
theorem dX5_look_19 : decode cX5_look 19 = .ok (.caload, 1) := by decide +kernel
theorem dX5_look_20 : decode cX5_look 20 = .ok (.goto 4, 3) := by decide +kernel
theorem dX5_look_23 : decode cX5_look 23 = .ok (.iconst 0, 1) := by decide +kernel
theorem dX5_look_24 : decode cX5_look 24 = .ok (.ireturn, 1) := by decide +kernel
theorem dX5_must_0 : decode cX5_must 0 = .ok (.aload_n 0, 1) := by decide +kernel
theorem dX5_must_1 : decode cX5_must 1 = .ok (.aload_n 0, 1) := by decide +kernel
theorem dX5_must_2 : decode cX5_must 2 = .ok (.getfield 116, 3) := by decide +kernel
theorem dX5_must_5 : decode cX5_must 5 = .ok (.ifCond .eq 11, 3) := by decide +kernel
theorem dX5_must_8 : decode cX5_must 8 = .ok (.iload_n 1, 1) := by decide +kernel
theorem dX5_must_9 : decode cX5_must 9 = .ok (.ifCond .eq 7, 3) := by decide +kernel
theorem dX5_must_12 : decode cX5_must 12 = .ok (.iconst 1, 1) := by decide +kernel
theorem dX5_must_13 : decode cX5_must 13 = .ok (.goto 4, 3) := by decide +kernel
theorem dX5_must_16 : decode cX5_must 16 = .ok (.iconst 0, 1) := by decide +kernel
theorem dX5_must_17 : decode cX5_must 17 = .ok (.putfield 116, 3) := by decide +kernel
theorem dX5_must_20 : decode cX5_must 20 = .ok (.return_, 1) := by decide +kernel
theorem dX5_type_0 : decode cX5_type 0 = .ok (.aload_n 0, 1) := by decide +kernel
theorem dX5_type_1 : decode cX5_type 1 = .ok (.aload_n 0, 1) := by decide +kernel
theorem dX5_type_2 : decode cX5_type 2 = .ok (.getfield 120, 3) := by decide +kernel
theorem dX5_type_5 : decode cX5_type 5 = .ok (.ifCond .eq 11, 3) := by decide +kernel
theorem dX5_type_8 : decode cX5_type 8 = .ok (.iload_n 1, 1) := by decide +kernel
theorem dX5_type_9 : decode cX5_type 9 = .ok (.ifCond .eq 7, 3) := by decide +kernel
theorem dX5_type_12 : decode cX5_type 12 = .ok (.iconst 1, 1) := by decide +kernel
theorem dX5_type_13 : decode cX5_type 13 = .ok (.goto 4, 3) := by decide +kernel
theorem dX5_type_16 : decode cX5_type 16 = .ok (.iconst 0, 1) := by decide +kernel
theorem dX5_type_17 : decode cX5_type 17 = .ok (.putfield 120, 3) := by decide +kernel
theorem dX5_type_20 : decode cX5_type 20 = .ok (.return_, 1) := by decide +kernel
theorem dX5_pass_0 : decode cX5_pass 0 = .ok (.aload_n 0, 1) := by decide +kernel
theorem dX5_pass_1 : decode cX5_pass 1 = .ok (.invokevirtual 123, 3) := by decide +kernel
theorem dX5_pass_4 : decode cX5_pass 4 = .ok (.iload_n 1, 1) := by decide +kernel
theorem dX5_pass_5 : decode cX5_pass 5 = .ok (.if_icmp .ne 7, 3) := by decide +kernel
theorem dX5_pass_8 : decode cX5_pass 8 = .ok (.iconst 1, 1) := by decide +kernel
theorem dX5_pass_9 : decode cX5_pass 9 = .ok (.goto 4, 3) := by decide +kernel
theorem dX5_pass_12 : decode cX5_pass 12 = .ok (.iconst 0, 1) := by decide +kernel
theorem dX5_pass_13 : decode cX5_pass 13 = .ok (.istore_n 2, 1) := by decide +kernel
theorem dX5_pass_14 : decode cX5_pass 14 = .ok (.aload_n 0, 1) := by decide +kernel
theorem dX5_pass_15 : decode cX5_pass 15 = .ok (.iload_n 2, 1) := by decide +kernel
theorem dX5_pass_16 : decode cX5_pass 16 = .ok (.ifCond .eq 12, 3) := by decide +kernel
theorem dX5_pass_19 : decode cX5_pass 19 = .ok (.aload_n 0, 1) := by decide +kernel
theorem dX5_pass_20 : decode cX5_pass 20 = .ok (.getfield 113, 3) := by decide +kernel
theorem dX5_pass_23 : decode cX5_pass 23 = .ok (.iconst 1, 1) := by decide +kernel
theorem dX5_pass_24 : decode cX5_pass 24 = .ok (.iadd, 1) := by decide +kernel
theorem dX5_pass_25 : decode cX5_pass 25 = .ok (.goto 7, 3) := by decide +kernel
theorem dX5_pass_28 : decode cX5_pass 28 = .ok (.aload_n 0, 1) := by decide +kernel
theorem dX5_pass_29 : decode cX5_pass 29 = .ok (.getfield 113, 3) := by decide +kernel
theorem dX5_pass_32 : decode cX5_pass 32 = .ok (.putfield 113, 3) := by decide +kernel
theorem dX5_pass_35 : decode cX5_pass 35 = .ok (.iload_n 2, 1) := by decide +kernel
theorem dX5_pass_36 : decode cX5_pass 36 = .ok (.ireturn, 1) := by decide +kernel
theorem dX5_expect_0 : decode cX5_expect 0 = .ok (.aload_n 0, 1) := by decide +kernel
theorem dX5_expect_1 : decode cX5_expect 1 = .ok (.aload_n 0, 1) := by decide +kernel
theorem dX5_expect_2 : decode cX5_expect 2 = .ok (.iload_n 1, 1) := by decide +kernel
theorem dX5_expect_3 : decode cX5_expect 3 = .ok (.invokevirtual 127, 3) := by decide +kernel
theorem dX5_expect_6 : decode cX5_expect 6 = .ok (.invokevirtual 131, 3) := by decide +kernel
theorem dX5_expect_9 : decode cX5_expect 9 = .ok (.return_, 1) := by decide +kernel
theorem dX5_letter_0 : decode cX5_letter 0 = .ok (.aload_n 0, 1) := by decide +kernel
theorem dX5_letter_1 : decode cX5_letter 1 = .ok (.aload_n 0, 1) := by decide +kernel
theorem dX5_letter_2 : decode cX5_letter 2 = .ok (.invokevirtual 123, 3) := by decide +kernel
theorem dX5_letter_5 : decode cX5_letter 5 = .ok (.iload_n 1, 1) := by decide +kernel
theorem dX5_letter_6 : decode cX5_letter 6 = .ok (.if_icmp .lt 15, 3) := by decide +kernel
theorem dX5_letter_9 : decode cX5_letter 9 = .ok (.aload_n 0, 1) := by decide +kernel
theorem dX5_letter_10 : decode cX5_letter 10 = .ok (.invokevirtual 123, 3) := by decide +kernel
theorem dX5_letter_13 : decode cX5_letter 13 = .ok (.iload_n 2, 1) := by decide +kernel
theorem dX5_letter_14 : decode cX5_letter 14 = .ok (.if_icmp .gt 7, 3) := by decide +kernel
theorem dX5_letter_17 : decode cX5_letter 17 = .ok (.iconst 1, 1) := by decide +kernel
theorem dX5_letter_18 : decode cX5_letter 18 = .ok (.goto 4, 3) := by decide +kernel
theorem dX5_letter_21 : decode cX5_letter 21 = .ok (.iconst 0, 1) := by decide +kernel
theorem dX5_letter_22 : decode cX5_letter 22 = .ok (.invokevirtual 131, 3) := by decide +kernel
theorem dX5_letter_25 : decode cX5_letter 25 = .ok (.aload_n 0, 1) := by decide +kernel
theorem dX5_letter_26 : decode cX5_letter 26 = .ok (.dup, 1) := by decide +kernel
theorem dX5_letter_27 : decode cX5_letter 27 = .ok (.getfield 113, 3) := by decide +kernel
theorem dX5_letter_30 : decode cX5_letter 30 = .ok (.iconst 1, 1) := by decide +kernel
theorem dX5_letter_31 : decode cX5_letter 31 = .ok (.iadd, 1) := by decide +kernel
theorem dX5_letter_32 : decode cX5_letter 32 = .ok (.putfield 113, 3) := by decide +kernel
theorem dX5_letter_35 : decode cX5_letter 35 = .ok (.aload_n 0, 1) := by decide +kernel
theorem dX5_letter_36 : decode cX5_letter 36 = .ok (.getfield 116, 3) := by decide +kernel
theorem dX5_letter_39 : decode cX5_letter 39 = .ok (.ifCond .eq 19, 3) := by decide +kernel
theorem dX5_letter_42 : decode cX5_letter 42 = .ok (.aload_n 0, 1) := by decide +kernel
theorem dX5_letter_43 : decode cX5_letter 43 = .ok (.getfield 7, 3) := by decide +kernel
theorem dX5_letter_46 : decode cX5_letter 46 = .ok (.aload_n 0, 1) := by decide +kernel
theorem dX5_letter_47 : decode cX5_letter 47 = .ok (.getfield 113, 3) := by decide +kernel
theorem dX5_letter_50 : decode cX5_letter 50 = .ok (.iconst 1, 1) := by decide +kernel
theorem dX5_letter_51 : decode cX5_letter 51 = .ok (.isub, 1) := by decide +kernel
theorem dX5_letter_52 : decode cX5_letter 52 = .ok (.caload, 1) := by decide +kernel
theorem dX5_letter_53 : decode cX5_letter 53 = .ok (.iload_n 1, 1) := by decide +kernel
theorem dX5_letter_54 : decode cX5_letter 54 = .ok (.isub, 1) := by decide +kernel
theorem dX5_letter_55 : decode cX5_letter 55 = .ok (.goto 4, 3) := by decide +kernel
theorem dX5_letter_58 : decode cX5_letter 58 = .ok (.iconst 0, 1) := by decide +kernel
theorem dX5_letter_59 : decode cX5_letter 59 = .ok (.ireturn, 1) := by decide +kernel
theorem dX5_isDigit_0 : decode cX5_isDigit 0 = .ok (.aload_n 0, 1) := by decide +kernel
theorem dX5_isDigit_1 : decode cX5_isDigit 1 = .ok (.invokevirtual 123, 3) := by decide +kernel
theorem dX5_isDigit_4 : decode cX5_isDigit 4 = .ok (.bipush 48, 2) := by decide +kernel
theorem dX5_isDigit_6 : decode cX5_isDigit 6 = .ok (.bipush 57, 2) := by decide +kernel
theorem dX5_isDigit_8 : decode cX5_isDigit 8 = .ok (.invokestatic 106, 3) := by decide +kernel
theorem dX5_isDigit_11 : decode cX5_isDigit 11 = .ok (.ifCond .ne 7, 3) := by decide +kernel
theorem dX5_isDigit_14 : decode cX5_isDigit 14 = .ok (.iconst 1, 1) := by decide +kernel
theorem dX5_isDigit_15 : decode cX5_isDigit 15 = .ok (.goto 4, 3) := by decide +kernel
theorem dX5_isDigit_18 : decode cX5_isDigit 18 = .ok (.iconst 0, 1) := by decide +kernel
theorem dX5_isDigit_19 : decode cX5_isDigit 19 = .ok (.ireturn, 1) := by decide +kernel
theorem dX5_emit_0 : decode cX5_emit 0 = .ok (.aload_n 0, 1) := by decide +kernel
theorem dX5_emit_1 : decode cX5_emit 1 = .ok (.getfield 135, 3) := by decide +kernel
theorem dX5_emit_4 : decode cX5_emit 4 = .ok (.ifCond .eq 4, 3) := by decide +kernel
theorem dX5_emit_7 : decode cX5_emit 7 = .ok (.return_, 1) := by decide +kernel
theorem dX5_emit_8 : decode cX5_emit 8 = .ok (.aload_n 0, 1) := by decide +kernel
theorem dX5_emit_9 : decode cX5_emit 9 = .ok (.getfield 45, 3) := by decide +kernel
theorem dX5_emit_12 : decode cX5_emit 12 = .ok (.sipush 780, 3) := by decide +kernel
theorem dX5_emit_15 : decode cX5_emit 15 = .ok (.aload_n 0, 1) := by decide +kernel
theorem dX5_emit_16 : decode cX5_emit 16 = .ok (.getfield 138, 3) := by decide +kernel
theorem dX5_emit_19 : decode cX5_emit 19 = .ok (.iadd, 1) := by decide +kernel
theorem dX5_emit_20 : decode cX5_emit 20 = .ok (.iload_n 1, 1) := by decide +kernel
theorem dX5_emit_21 : decode cX5_emit 21 = .ok (.iastore, 1) := by decide +kernel
theorem dX5_emit_22 : decode cX5_emit 22 = .ok (.aload_n 0, 1) := by decide +kernel
theorem dX5_emit_23 : decode cX5_emit 23 = .ok (.getfield 48, 3) := by decide +kernel
theorem dX5_emit_26 : decode cX5_emit 26 = .ok (.sipush 780, 3) := by decide +kernel
theorem dX5_emit_29 : decode cX5_emit 29 = .ok (.aload_n 0, 1) := by decide +kernel
theorem dX5_emit_30 : decode cX5_emit 30 = .ok (.getfield 138, 3) := by decide +kernel
theorem dX5_emit_33 : decode cX5_emit 33 = .ok (.iadd, 1) := by decide +kernel
theorem dX5_emit_34 : decode cX5_emit 34 = .ok (.iload_n 2, 1) := by decide +kernel
theorem dX5_emit_35 : decode cX5_emit 35 = .ok (.iastore, 1) := by decide +kernel
theorem dX5_emit_36 : decode cX5_emit 36 = .ok (.aload_n 0, 1) := by decide +kernel
theorem dX5_emit_37 : decode cX5_emit 37 = .ok (.getfield 51, 3) := by decide +kernel
theorem dX5_emit_40 : decode cX5_emit 40 = .ok (.sipush 780, 3) := by decide +kernel
theorem dX5_emit_43 : decode cX5_emit 43 = .ok (.aload_n 0, 1) := by decide +kernel
theorem dX5_emit_44 : decode cX5_emit 44 = .ok (.getfield 138, 3) := by decide +kernel
theorem dX5_emit_47 : decode cX5_emit 47 = .ok (.iadd, 1) := by decide +kernel
theorem dX5_emit_48 : decode cX5_emit 48 = .ok (.aload_n 0, 1) := by decide +kernel
theorem dX5_emit_49 : decode cX5_emit 49 = .ok (.getfield 141, 3) := by decide +kernel
theorem dX5_emit_52 : decode cX5_emit 52 = .ok (.iastore, 1) := by decide +kernel
theorem dX5_emit_53 : decode cX5_emit 53 = .ok (.aload_n 0, 1) := by decide +kernel
theorem dX5_emit_54 : decode cX5_emit 54 = .ok (.dup, 1) := by decide +kernel
theorem dX5_emit_55 : decode cX5_emit 55 = .ok (.getfield 138, 3) := by decide +kernel
theorem dX5_emit_58 : decode cX5_emit 58 = .ok (.iconst 1, 1) := by decide +kernel
theorem dX5_emit_59 : decode cX5_emit 59 = .ok (.iadd, 1) := by decide +kernel
theorem dX5_emit_60 : decode cX5_emit 60 = .ok (.putfield 138, 3) := by decide +kernel
theorem dX5_emit_63 : decode cX5_emit 63 = .ok (.return_, 1) := by decide +kernel
theorem dX5_grow_0 : decode cX5_grow 0 = .ok (.aload_n 0, 1) := by decide +kernel
theorem dX5_grow_1 : decode cX5_grow 1 = .ok (.dup, 1) := by decide +kernel
theorem dX5_grow_2 : decode cX5_grow 2 = .ok (.getfield 141, 3) := by decide +kernel
theorem dX5_grow_5 : decode cX5_grow 5 = .ok (.iload_n 1, 1) := by decide +kernel
theorem dX5_grow_6 : decode cX5_grow 6 = .ok (.iadd, 1) := by decide +kernel
theorem dX5_grow_7 : decode cX5_grow 7 = .ok (.putfield 141, 3) := by decide +kernel
theorem dX5_grow_10 : decode cX5_grow 10 = .ok (.aload_n 0, 1) := by decide +kernel
theorem dX5_grow_11 : decode cX5_grow 11 = .ok (.aload_n 0, 1) := by decide +kernel
theorem dX5_grow_12 : decode cX5_grow 12 = .ok (.getfield 141, 3) := by decide +kernel
theorem dX5_grow_15 : decode cX5_grow 15 = .ok (.aload_n 0, 1) := by decide +kernel
theorem dX5_grow_16 : decode cX5_grow 16 = .ok (.getfield 144, 3) := by decide +kernel
theorem dX5_grow_19 : decode cX5_grow 19 = .ok (.if_icmp .le 10, 3) := by decide +kernel
theorem dX5_grow_22 : decode cX5_grow 22 = .ok (.aload_n 0, 1) := by decide +kernel
theorem dX5_grow_23 : decode cX5_grow 23 = .ok (.getfield 141, 3) := by decide +kernel
theorem dX5_grow_26 : decode cX5_grow 26 = .ok (.goto 7, 3) := by decide +kernel
theorem dX5_grow_29 : decode cX5_grow 29 = .ok (.aload_n 0, 1) := by decide +kernel
theorem dX5_grow_30 : decode cX5_grow 30 = .ok (.getfield 144, 3) := by decide +kernel
theorem dX5_grow_33 : decode cX5_grow 33 = .ok (.putfield 144, 3) := by decide +kernel
theorem dX5_grow_36 : decode cX5_grow 36 = .ok (.return_, 1) := by decide +kernel
theorem dX5_find_0 : decode cX5_find 0 = .ok (.iconst (-1), 1) := by decide +kernel
theorem dX5_find_1 : decode cX5_find 1 = .ok (.istore 4, 2) := by decide +kernel
theorem dX5_find_3 : decode cX5_find 3 = .ok (.iconst 0, 1) := by decide +kernel
theorem dX5_find_4 : decode cX5_find 4 = .ok (.istore 5, 2) := by decide +kernel
theorem dX5_find_6 : decode cX5_find 6 = .ok (.iload 5, 2) := by decide +kernel
theorem dX5_find_8 : decode cX5_find 8 = .ok (.aload_n 0, 1) := by decide +kernel
theorem dX5_find_9 : decode cX5_find 9 = .ok (.getfield 17, 3) := by decide +kernel
theorem dX5_find_12 : decode cX5_find 12 = .ok (.iload_n 1, 1) := by decide +kernel
theorem dX5_find_13 : decode cX5_find 13 = .ok (.iaload, 1) := by decide +kernel
theorem dX5_find_14 : decode cX5_find 14 = .ok (.if_icmp .ge 55, 3) := by decide +kernel
theorem dX5_find_17 : decode cX5_find 17 = .ok (.aload_n 0, 1) := by decide +kernel
theorem dX5_find_18 : decode cX5_find 18 = .ok (.getfield 21, 3) := by decide +kernel
theorem dX5_find_21 : decode cX5_find 21 = .ok (.bipush 6, 2) := by decide +kernel
theorem dX5_find_23 : decode cX5_find 23 = .ok (.iload_n 1, 1) := by decide +kernel
theorem dX5_find_24 : decode cX5_find 24 = .ok (.imul, 1) := by decide +kernel
theorem dX5_find_25 : decode cX5_find 25 = .ok (.iload 5, 2) := by decide +kernel
theorem dX5_find_27 : decode cX5_find 27 = .ok (.iadd, 1) := by decide +kernel
theorem dX5_find_28 : decode cX5_find 28 = .ok (.iaload, 1) := by decide +kernel
theorem dX5_find_29 : decode cX5_find 29 = .ok (.iload_n 2, 1) := by decide +kernel
theorem dX5_find_30 : decode cX5_find 30 = .ok (.if_icmp .ne 29, 3) := by decide +kernel
theorem dX5_find_33 : decode cX5_find 33 = .ok (.aload_n 0, 1) := by decide +kernel
theorem dX5_find_34 : decode cX5_find 34 = .ok (.getfield 24, 3) := by decide +kernel
theorem dX5_find_37 : decode cX5_find 37 = .ok (.bipush 6, 2) := by decide +kernel
theorem dX5_find_39 : decode cX5_find 39 = .ok (.iload_n 1, 1) := by decide +kernel
theorem dX5_find_40 : decode cX5_find 40 = .ok (.imul, 1) := by decide +kernel
theorem dX5_find_41 : decode cX5_find 41 = .ok (.iload 5, 2) := by decide +kernel
theorem dX5_find_43 : decode cX5_find 43 = .ok (.iadd, 1) := by decide +kernel
theorem dX5_find_44 : decode cX5_find 44 = .ok (.iaload, 1) := by decide +kernel
theorem dX5_find_45 : decode cX5_find 45 = .ok (.iload_n 3, 1) := by decide +kernel
theorem dX5_find_46 : decode cX5_find 46 = .ok (.if_icmp .ne 13, 3) := by decide +kernel
theorem dX5_find_49 : decode cX5_find 49 = .ok (.bipush 6, 2) := by decide +kernel
theorem dX5_find_51 : decode cX5_find 51 = .ok (.iload_n 1, 1) := by decide +kernel
theorem dX5_find_52 : decode cX5_find 52 = .ok (.imul, 1) := by decide +kernel
theorem dX5_find_53 : decode cX5_find 53 = .ok (.iload 5, 2) := by decide +kernel
theorem dX5_find_55 : decode cX5_find 55 = .ok (.iadd, 1) := by decide +kernel
theorem dX5_find_56 : decode cX5_find 56 = .ok (.goto 5, 3) := by decide +kernel
theorem dX5_find_59 : decode cX5_find 59 = .ok (.iload 4, 2) := by decide +kernel
theorem dX5_find_61 : decode cX5_find 61 = .ok (.istore 4, 2) := by decide +kernel
theorem dX5_find_63 : decode cX5_find 63 = .ok (.iinc 5 1, 3) := by decide +kernel
theorem dX5_find_66 : decode cX5_find 66 = .ok (.goto (-60), 3) := by decide +kernel
theorem dX5_find_69 : decode cX5_find 69 = .ok (.iload 4, 2) := by decide +kernel
theorem dX5_find_71 : decode cX5_find 71 = .ok (.ireturn, 1) := by decide +kernel
theorem dX5_before_0 : decode cX5_before 0 = .ok (.iconst 0, 1) := by decide +kernel
theorem dX5_before_1 : decode cX5_before 1 = .ok (.istore_n 3, 1) := by decide +kernel
theorem dX5_before_2 : decode cX5_before 2 = .ok (.iconst 0, 1) := by decide +kernel
theorem dX5_before_3 : decode cX5_before 3 = .ok (.istore 4, 2) := by decide +kernel
theorem dX5_before_5 : decode cX5_before 5 = .ok (.iload 4, 2) := by decide +kernel
theorem dX5_before_7 : decode cX5_before 7 = .ok (.iload_n 2, 1) := by decide +kernel
theorem dX5_before_8 : decode cX5_before 8 = .ok (.if_icmp .ge 31, 3) := by decide +kernel
theorem dX5_before_11 : decode cX5_before 11 = .ok (.iload_n 3, 1) := by decide +kernel
theorem dX5_before_12 : decode cX5_before 12 = .ok (.aload_n 0, 1) := by decide +kernel
theorem dX5_before_13 : decode cX5_before 13 = .ok (.getfield 33, 3) := by decide +kernel
theorem dX5_before_16 : decode cX5_before 16 = .ok (.iconst 3, 1) := by decide +kernel
theorem dX5_before_17 : decode cX5_before 17 = .ok (.iload_n 1, 1) := by decide +kernel
theorem dX5_before_18 : decode cX5_before 18 = .ok (.imul, 1) := by decide +kernel
theorem dX5_before_19 : decode cX5_before 19 = .ok (.iload 4, 2) := by decide +kernel
theorem dX5_before_21 : decode cX5_before 21 = .ok (.iadd, 1) := by decide +kernel
theorem dX5_before_22 : decode cX5_before 22 = .ok (.baload, 1) := by decide +kernel
theorem dX5_before_23 : decode cX5_before 23 = .ok (.ifCond .eq 7, 3) := by decide +kernel
theorem dX5_before_26 : decode cX5_before 26 = .ok (.iconst 2, 1) := by decide +kernel
theorem dX5_before_27 : decode cX5_before 27 = .ok (.goto 4, 3) := by decide +kernel
theorem dX5_before_30 : decode cX5_before 30 = .ok (.iconst 1, 1) := by decide +kernel
theorem dX5_before_31 : decode cX5_before 31 = .ok (.iadd, 1) := by decide +kernel
theorem dX5_before_32 : decode cX5_before 32 = .ok (.istore_n 3, 1) := by decide +kernel
theorem dX5_before_33 : decode cX5_before 33 = .ok (.iinc 4 1, 3) := by decide +kernel
theorem dX5_before_36 : decode cX5_before 36 = .ok (.goto (-31), 3) := by decide +kernel
theorem dX5_before_39 : decode cX5_before 39 = .ok (.iload_n 3, 1) := by decide +kernel
theorem dX5_before_40 : decode cX5_before 40 = .ok (.ireturn, 1) := by decide +kernel
theorem dX5_words_0 : decode cX5_words 0 = .ok (.aload_n 0, 1) := by decide +kernel
theorem dX5_words_1 : decode cX5_words 1 = .ok (.iload_n 1, 1) := by decide +kernel
theorem dX5_words_2 : decode cX5_words 2 = .ok (.aload_n 0, 1) := by decide +kernel
theorem dX5_words_3 : decode cX5_words 3 = .ok (.getfield 30, 3) := by decide +kernel
theorem dX5_words_6 : decode cX5_words 6 = .ok (.iload_n 1, 1) := by decide +kernel
theorem dX5_words_7 : decode cX5_words 7 = .ok (.iaload, 1) := by decide +kernel
theorem dX5_words_8 : decode cX5_words 8 = .ok (.invokevirtual 147, 3) := by decide +kernel
theorem dX5_words_11 : decode cX5_words 11 = .ok (.ireturn, 1) := by decide +kernel
theorem dX5_opened_0 : decode cX5_opened 0 = .ok (.aload_n 0, 1) := by decide +kernel
theorem dX5_opened_1 : decode cX5_opened 1 = .ok (.aload_n 0, 1) := by decide +kernel
theorem dX5_opened_2 : decode cX5_opened 2 = .ok (.getfield 151, 3) := by decide +kernel
theorem dX5_opened_5 : decode cX5_opened 5 = .ok (.bipush 9, 2) := by decide +kernel
theorem dX5_opened_7 : decode cX5_opened 7 = .ok (.if_icmp .ge 7, 3) := by decide +kernel
theorem dX5_opened_10 : decode cX5_opened 10 = .ok (.iconst 1, 1) := by decide +kernel
theorem dX5_opened_11 : decode cX5_opened 11 = .ok (.goto 4, 3) := by decide +kernel
theorem dX5_opened_14 : decode cX5_opened 14 = .ok (.iconst 0, 1) := by decide +kernel
theorem dX5_opened_15 : decode cX5_opened 15 = .ok (.invokevirtual 131, 3) := by decide +kernel
theorem dX5_opened_18 : decode cX5_opened 18 = .ok (.aload_n 0, 1) := by decide +kernel
theorem dX5_opened_19 : decode cX5_opened 19 = .ok (.getfield 116, 3) := by decide +kernel
theorem dX5_opened_22 : decode cX5_opened 22 = .ok (.ifCond .ne 4, 3) := by decide +kernel
theorem dX5_opened_25 : decode cX5_opened 25 = .ok (.return_, 1) := by decide +kernel
theorem dX5_opened_26 : decode cX5_opened 26 = .ok (.aload_n 0, 1) := by decide +kernel
theorem dX5_opened_27 : decode cX5_opened 27 = .ok (.getfield 54, 3) := by decide +kernel
theorem dX5_opened_30 : decode cX5_opened 30 = .ok (.aload_n 0, 1) := by decide +kernel
theorem dX5_opened_31 : decode cX5_opened 31 = .ok (.getfield 151, 3) := by decide +kernel
theorem dX5_opened_34 : decode cX5_opened 34 = .ok (.iload_n 1, 1) := by decide +kernel
theorem dX5_opened_35 : decode cX5_opened 35 = .ok (.iastore, 1) := by decide +kernel
theorem dX5_opened_36 : decode cX5_opened 36 = .ok (.aload_n 0, 1) := by decide +kernel
theorem dX5_opened_37 : decode cX5_opened 37 = .ok (.getfield 57, 3) := by decide +kernel
theorem dX5_opened_40 : decode cX5_opened 40 = .ok (.aload_n 0, 1) := by decide +kernel
theorem dX5_opened_41 : decode cX5_opened 41 = .ok (.getfield 151, 3) := by decide +kernel
theorem dX5_opened_44 : decode cX5_opened 44 = .ok (.iconst 0, 1) := by decide +kernel
theorem dX5_opened_45 : decode cX5_opened 45 = .ok (.iastore, 1) := by decide +kernel
theorem dX5_opened_46 : decode cX5_opened 46 = .ok (.aload_n 0, 1) := by decide +kernel
theorem dX5_opened_47 : decode cX5_opened 47 = .ok (.getfield 60, 3) := by decide +kernel
theorem dX5_opened_50 : decode cX5_opened 50 = .ok (.aload_n 0, 1) := by decide +kernel
theorem dX5_opened_51 : decode cX5_opened 51 = .ok (.getfield 151, 3) := by decide +kernel
theorem dX5_opened_54 : decode cX5_opened 54 = .ok (.iconst 0, 1) := by decide +kernel
theorem dX5_opened_55 : decode cX5_opened 55 = .ok (.iastore, 1) := by decide +kernel
theorem dX5_opened_56 : decode cX5_opened 56 = .ok (.aload_n 0, 1) := by decide +kernel
theorem dX5_opened_57 : decode cX5_opened 57 = .ok (.getfield 63, 3) := by decide +kernel
theorem dX5_opened_60 : decode cX5_opened 60 = .ok (.aload_n 0, 1) := by decide +kernel
theorem dX5_opened_61 : decode cX5_opened 61 = .ok (.getfield 151, 3) := by decide +kernel
theorem dX5_opened_64 : decode cX5_opened 64 = .ok (.iconst 0, 1) := by decide +kernel
theorem dX5_opened_65 : decode cX5_opened 65 = .ok (.bastore, 1) := by decide +kernel
theorem dX5_opened_66 : decode cX5_opened 66 = .ok (.aload_n 0, 1) := by decide +kernel
theorem dX5_opened_67 : decode cX5_opened 67 = .ok (.dup, 1) := by decide +kernel
theorem dX5_opened_68 : decode cX5_opened 68 = .ok (.getfield 151, 3) := by decide +kernel
theorem dX5_opened_71 : decode cX5_opened 71 = .ok (.iconst 1, 1) := by decide +kernel
theorem dX5_opened_72 : decode cX5_opened 72 = .ok (.iadd, 1) := by decide +kernel
theorem dX5_opened_73 : decode cX5_opened 73 = .ok (.putfield 151, 3) := by decide +kernel
theorem dX5_opened_76 : decode cX5_opened 76 = .ok (.return_, 1) := by decide +kernel
theorem dX5_readNumber_0 : decode cX5_readNumber 0 = .ok (.iconst 0, 1) := by decide +kernel
theorem dX5_readNumber_1 : decode cX5_readNumber 1 = .ok (.istore_n 1, 1) := by decide +kernel
theorem dX5_readNumber_2 : decode cX5_readNumber 2 = .ok (.iconst 0, 1) := by decide +kernel
theorem dX5_readNumber_3 : decode cX5_readNumber 3 = .ok (.istore_n 2, 1) := by decide +kernel
theorem dX5_readNumber_4 : decode cX5_readNumber 4 = .ok (.aload_n 0, 1) := by decide +kernel
theorem dX5_readNumber_5 : decode cX5_readNumber 5 = .ok (.invokevirtual 154, 3) := by decide +kernel
theorem dX5_readNumber_8 : decode cX5_readNumber 8 = .ok (.ifCond .eq 53, 3) := by decide +kernel
theorem dX5_readNumber_11 : decode cX5_readNumber 11 = .ok (.aload_n 0, 1) := by decide +kernel
theorem dX5_readNumber_12 : decode cX5_readNumber 12 = .ok (.getfield 116, 3) := by decide +kernel
theorem dX5_readNumber_15 : decode cX5_readNumber 15 = .ok (.ifCond .eq 46, 3) := by decide +kernel
theorem dX5_readNumber_18 : decode cX5_readNumber 18 = .ok (.aload_n 0, 1) := by decide +kernel
theorem dX5_readNumber_19 : decode cX5_readNumber 19 = .ok (.iload_n 2, 1) := by decide +kernel
theorem dX5_readNumber_20 : decode cX5_readNumber 20 = .ok (.iconst 4, 1) := by decide +kernel
theorem dX5_readNumber_21 : decode cX5_readNumber 21 = .ok (.if_icmp .ge 7, 3) := by decide +kernel
theorem dX5_readNumber_24 : decode cX5_readNumber 24 = .ok (.iconst 1, 1) := by decide +kernel
theorem dX5_readNumber_25 : decode cX5_readNumber 25 = .ok (.goto 4, 3) := by decide +kernel
theorem dX5_readNumber_28 : decode cX5_readNumber 28 = .ok (.iconst 0, 1) := by decide +kernel
theorem dX5_readNumber_29 : decode cX5_readNumber 29 = .ok (.invokevirtual 131, 3) := by decide +kernel
theorem dX5_readNumber_32 : decode cX5_readNumber 32 = .ok (.bipush 10, 2) := by decide +kernel
theorem dX5_readNumber_34 : decode cX5_readNumber 34 = .ok (.iload_n 1, 1) := by decide +kernel
theorem dX5_readNumber_35 : decode cX5_readNumber 35 = .ok (.imul, 1) := by decide +kernel
theorem dX5_readNumber_36 : decode cX5_readNumber 36 = .ok (.aload_n 0, 1) := by decide +kernel
theorem dX5_readNumber_37 : decode cX5_readNumber 37 = .ok (.invokevirtual 123, 3) := by decide +kernel
theorem dX5_readNumber_40 : decode cX5_readNumber 40 = .ok (.iadd, 1) := by decide +kernel
theorem dX5_readNumber_41 : decode cX5_readNumber 41 = .ok (.bipush 48, 2) := by decide +kernel
theorem dX5_readNumber_43 : decode cX5_readNumber 43 = .ok (.isub, 1) := by decide +kernel
theorem dX5_readNumber_44 : decode cX5_readNumber 44 = .ok (.istore_n 1, 1) := by decide +kernel
theorem dX5_readNumber_45 : decode cX5_readNumber 45 = .ok (.iinc 2 1, 3) := by decide +kernel
theorem dX5_readNumber_48 : decode cX5_readNumber 48 = .ok (.aload_n 0, 1) := by decide +kernel
theorem dX5_readNumber_49 : decode cX5_readNumber 49 = .ok (.dup, 1) := by decide +kernel
theorem dX5_readNumber_50 : decode cX5_readNumber 50 = .ok (.getfield 113, 3) := by decide +kernel
theorem dX5_readNumber_53 : decode cX5_readNumber 53 = .ok (.iconst 1, 1) := by decide +kernel
theorem dX5_readNumber_54 : decode cX5_readNumber 54 = .ok (.iadd, 1) := by decide +kernel
theorem dX5_readNumber_55 : decode cX5_readNumber 55 = .ok (.putfield 113, 3) := by decide +kernel
theorem dX5_readNumber_58 : decode cX5_readNumber 58 = .ok (.goto (-54), 3) := by decide +kernel
theorem dX5_readNumber_61 : decode cX5_readNumber 61 = .ok (.aload_n 0, 1) := by decide +kernel
theorem dX5_readNumber_62 : decode cX5_readNumber 62 = .ok (.iconst 0, 1) := by decide +kernel
theorem dX5_readNumber_63 : decode cX5_readNumber 63 = .ok (.iload_n 1, 1) := by decide +kernel
theorem dX5_readNumber_64 : decode cX5_readNumber 64 = .ok (.invokevirtual 158, 3) := by decide +kernel
theorem dX5_readNumber_67 : decode cX5_readNumber 67 = .ok (.aload_n 0, 1) := by decide +kernel
theorem dX5_readNumber_68 : decode cX5_readNumber 68 = .ok (.iconst 0, 1) := by decide +kernel
theorem dX5_readNumber_69 : decode cX5_readNumber 69 = .ok (.putfield 162, 3) := by decide +kernel
theorem dX5_readNumber_72 : decode cX5_readNumber 72 = .ok (.return_, 1) := by decide +kernel
theorem dX5_readParameter_0 : decode cX5_readParameter 0 = .ok (.aload_n 0, 1) := by decide +kernel
theorem dX5_readParameter_1 : decode cX5_readParameter 1 = .ok (.bipush 49, 2) := by decide +kernel
theorem dX5_readParameter_3 : decode cX5_readParameter 3 = .ok (.bipush 51, 2) := by decide +kernel
theorem dX5_readParameter_5 : decode cX5_readParameter 5 = .ok (.invokevirtual 165, 3) := by decide +kernel
theorem dX5_readParameter_8 : decode cX5_readParameter 8 = .ok (.istore_n 1, 1) := by decide +kernel
theorem dX5_readParameter_9 : decode cX5_readParameter 9 = .ok (.iload_n 1, 1) := by decide +kernel
theorem dX5_readParameter_10 : decode cX5_readParameter 10 = .ok (.aload_n 0, 1) := by decide +kernel
theorem dX5_readParameter_11 : decode cX5_readParameter 11 = .ok (.getfield 30, 3) := by decide +kernel
theorem dX5_readParameter_14 : decode cX5_readParameter 14 = .ok (.aload_n 0, 1) := by decide +kernel
theorem dX5_readParameter_15 : decode cX5_readParameter 15 = .ok (.getfield 169, 3) := by decide +kernel
theorem dX5_readParameter_18 : decode cX5_readParameter 18 = .ok (.iaload, 1) := by decide +kernel
theorem dX5_readParameter_19 : decode cX5_readParameter 19 = .ok (.if_icmp .ge 7, 3) := by decide +kernel
theorem dX5_readParameter_22 : decode cX5_readParameter 22 = .ok (.iconst 1, 1) := by decide +kernel
theorem dX5_readParameter_23 : decode cX5_readParameter 23 = .ok (.goto 4, 3) := by decide +kernel
theorem dX5_readParameter_26 : decode cX5_readParameter 26 = .ok (.iconst 0, 1) := by decide +kernel
theorem dX5_readParameter_27 : decode cX5_readParameter 27 = .ok (.istore_n 2, 1) := by decide +kernel
theorem dX5_readParameter_28 : decode cX5_readParameter 28 = .ok (.aload_n 0, 1) := by decide +kernel
theorem dX5_readParameter_29 : decode cX5_readParameter 29 = .ok (.iload_n 2, 1) := by decide +kernel
theorem dX5_readParameter_30 : decode cX5_readParameter 30 = .ok (.invokevirtual 172, 3) := by decide +kernel
theorem dX5_readParameter_33 : decode cX5_readParameter 33 = .ok (.aload_n 0, 1) := by decide +kernel
theorem dX5_readParameter_34 : decode cX5_readParameter 34 = .ok (.iload_n 2, 1) := by decide +kernel
theorem dX5_readParameter_35 : decode cX5_readParameter 35 = .ok (.ifCond .eq 23, 3) := by decide +kernel
theorem dX5_readParameter_38 : decode cX5_readParameter 38 = .ok (.aload_n 0, 1) := by decide +kernel
theorem dX5_readParameter_39 : decode cX5_readParameter 39 = .ok (.getfield 33, 3) := by decide +kernel
theorem dX5_readParameter_42 : decode cX5_readParameter 42 = .ok (.iconst 3, 1) := by decide +kernel
theorem dX5_readParameter_43 : decode cX5_readParameter 43 = .ok (.aload_n 0, 1) := by decide +kernel
theorem dX5_readParameter_44 : decode cX5_readParameter 44 = .ok (.getfield 169, 3) := by decide +kernel
theorem dX5_readParameter_47 : decode cX5_readParameter 47 = .ok (.imul, 1) := by decide +kernel
theorem dX5_readParameter_48 : decode cX5_readParameter 48 = .ok (.iload_n 1, 1) := by decide +kernel
theorem dX5_readParameter_49 : decode cX5_readParameter 49 = .ok (.iadd, 1) := by decide +kernel
theorem dX5_readParameter_50 : decode cX5_readParameter 50 = .ok (.baload, 1) := by decide +kernel
theorem dX5_readParameter_51 : decode cX5_readParameter 51 = .ok (.ifCond .eq 7, 3) := by decide +kernel
theorem dX5_readParameter_54 : decode cX5_readParameter 54 = .ok (.iconst 1, 1) := by decide +kernel
theorem dX5_readParameter_55 : decode cX5_readParameter 55 = .ok (.goto 4, 3) := by decide +kernel
theorem dX5_readParameter_58 : decode cX5_readParameter 58 = .ok (.iconst 0, 1) := by decide +kernel
theorem dX5_readParameter_59 : decode cX5_readParameter 59 = .ok (.putfield 162, 3) := by decide +kernel
theorem dX5_readParameter_62 : decode cX5_readParameter 62 = .ok (.iload_n 2, 1) := by decide +kernel
theorem dX5_readParameter_63 : decode cX5_readParameter 63 = .ok (.ifCond .eq 28, 3) := by decide +kernel
theorem dX5_readParameter_66 : decode cX5_readParameter 66 = .ok (.aload_n 0, 1) := by decide +kernel
theorem dX5_readParameter_67 : decode cX5_readParameter 67 = .ok (.aload_n 0, 1) := by decide +kernel
theorem dX5_readParameter_68 : decode cX5_readParameter 68 = .ok (.getfield 162, 3) := by decide +kernel
theorem dX5_readParameter_71 : decode cX5_readParameter 71 = .ok (.ifCond .eq 7, 3) := by decide +kernel
theorem dX5_readParameter_74 : decode cX5_readParameter 74 = .ok (.iconst 2, 1) := by decide +kernel
theorem dX5_readParameter_75 : decode cX5_readParameter 75 = .ok (.goto 4, 3) := by decide +kernel
theorem dX5_readParameter_78 : decode cX5_readParameter 78 = .ok (.iconst 1, 1) := by decide +kernel
theorem dX5_readParameter_79 : decode cX5_readParameter 79 = .ok (.aload_n 0, 1) := by decide +kernel
theorem dX5_readParameter_80 : decode cX5_readParameter 80 = .ok (.aload_n 0, 1) := by decide +kernel
theorem dX5_readParameter_81 : decode cX5_readParameter 81 = .ok (.getfield 169, 3) := by decide +kernel
theorem dX5_readParameter_84 : decode cX5_readParameter 84 = .ok (.iload_n 1, 1) := by decide +kernel
theorem dX5_readParameter_85 : decode cX5_readParameter 85 = .ok (.invokevirtual 147, 3) := by decide +kernel
theorem dX5_readParameter_88 : decode cX5_readParameter 88 = .ok (.invokevirtual 158, 3) := by decide +kernel
theorem dX5_readParameter_91 : decode cX5_readParameter 91 = .ok (.return_, 1) := by decide +kernel
theorem dX5_readCall_0 : decode cX5_readCall 0 = .ok (.aload_n 0, 1) := by decide +kernel
theorem dX5_readCall_1 : decode cX5_readCall 1 = .ok (.invokevirtual 123, 3) := by decide +kernel
theorem dX5_readCall_4 : decode cX5_readCall 4 = .ok (.bipush 65, 2) := by decide +kernel
theorem dX5_readCall_6 : decode cX5_readCall 6 = .ok (.bipush 70, 2) := by decide +kernel
theorem dX5_readCall_8 : decode cX5_readCall 8 = .ok (.invokestatic 106, 3) := by decide +kernel
theorem dX5_readCall_11 : decode cX5_readCall 11 = .ok (.ifCond .ne 7, 3) := by decide +kernel
theorem dX5_readCall_14 : decode cX5_readCall 14 = .ok (.iconst 1, 1) := by decide +kernel
theorem dX5_readCall_15 : decode cX5_readCall 15 = .ok (.goto 4, 3) := by decide +kernel
theorem dX5_readCall_18 : decode cX5_readCall 18 = .ok (.iconst 0, 1) := by decide +kernel
theorem dX5_readCall_19 : decode cX5_readCall 19 = .ok (.istore_n 1, 1) := by decide +kernel
theorem dX5_readCall_20 : decode cX5_readCall 20 = .ok (.iload_n 1, 1) := by decide +kernel
theorem dX5_readCall_21 : decode cX5_readCall 21 = .ok (.ifCond .eq 14, 3) := by decide +kernel
theorem dX5_readCall_24 : decode cX5_readCall 24 = .ok (.aload_n 0, 1) := by decide +kernel
theorem dX5_readCall_25 : decode cX5_readCall 25 = .ok (.bipush 65, 2) := by decide +kernel
theorem dX5_readCall_27 : decode cX5_readCall 27 = .ok (.bipush 70, 2) := by decide +kernel
theorem dX5_readCall_29 : decode cX5_readCall 29 = .ok (.invokevirtual 165, 3) := by decide +kernel
theorem dX5_readCall_32 : decode cX5_readCall 32 = .ok (.goto 4, 3) := by decide +kernel
theorem dX5_readCall_35 : decode cX5_readCall 35 = .ok (.iconst (-1), 1) := by decide +kernel
theorem dX5_readCall_36 : decode cX5_readCall 36 = .ok (.istore_n 2, 1) := by decide +kernel
theorem dX5_readCall_37 : decode cX5_readCall 37 = .ok (.iload_n 1, 1) := by decide +kernel
theorem dX5_readCall_38 : decode cX5_readCall 38 = .ok (.ifCond .eq 9, 3) := by decide +kernel
theorem dX5_readCall_41 : decode cX5_readCall 41 = .ok (.aload_n 0, 1) := by decide +kernel
theorem dX5_readCall_42 : decode cX5_readCall 42 = .ok (.bipush 46, 2) := by decide +kernel
theorem dX5_readCall_44 : decode cX5_readCall 44 = .ok (.invokevirtual 175, 3) := by decide +kernel
theorem dX5_readCall_47 : decode cX5_readCall 47 = .ok (.aload_n 0, 1) := by decide +kernel
theorem dX5_readCall_48 : decode cX5_readCall 48 = .ok (.bipush 97, 2) := by decide +kernel
theorem dX5_readCall_50 : decode cX5_readCall 50 = .ok (.bipush 122, 2) := by decide +kernel
theorem dX5_readCall_52 : decode cX5_readCall 52 = .ok (.invokevirtual 165, 3) := by decide +kernel
theorem dX5_readCall_55 : decode cX5_readCall 55 = .ok (.istore_n 3, 1) := by decide +kernel
theorem dX5_readCall_56 : decode cX5_readCall 56 = .ok (.aload_n 0, 1) := by decide +kernel
theorem dX5_readCall_57 : decode cX5_readCall 57 = .ok (.bipush 40, 2) := by decide +kernel
theorem dX5_readCall_59 : decode cX5_readCall 59 = .ok (.invokevirtual 175, 3) := by decide +kernel
theorem dX5_readCall_62 : decode cX5_readCall 62 = .ok (.aload_n 0, 1) := by decide +kernel
theorem dX5_readCall_63 : decode cX5_readCall 63 = .ok (.iconst 4, 1) := by decide +kernel
theorem dX5_readCall_64 : decode cX5_readCall 64 = .ok (.invokevirtual 179, 3) := by decide +kernel
theorem dX5_readCall_67 : decode cX5_readCall 67 = .ok (.aload_n 0, 1) := by decide +kernel
theorem dX5_readCall_68 : decode cX5_readCall 68 = .ok (.getfield 116, 3) := by decide +kernel
theorem dX5_readCall_71 : decode cX5_readCall 71 = .ok (.ifCond .ne 5, 3) := by decide +kernel
theorem dX5_readCall_74 : decode cX5_readCall 74 = .ok (.iconst 0, 1) := by decide +kernel
theorem dX5_readCall_75 : decode cX5_readCall 75 = .ok (.ireturn, 1) := by decide +kernel
theorem dX5_readCall_76 : decode cX5_readCall 76 = .ok (.aload_n 0, 1) := by decide +kernel
theorem dX5_readCall_77 : decode cX5_readCall 77 = .ok (.getfield 72, 3) := by decide +kernel
theorem dX5_readCall_80 : decode cX5_readCall 80 = .ok (.aload_n 0, 1) := by decide +kernel
theorem dX5_readCall_81 : decode cX5_readCall 81 = .ok (.getfield 151, 3) := by decide +kernel
theorem dX5_readCall_84 : decode cX5_readCall 84 = .ok (.iconst 1, 1) := by decide +kernel
theorem dX5_readCall_85 : decode cX5_readCall 85 = .ok (.isub, 1) := by decide +kernel
theorem dX5_readCall_86 : decode cX5_readCall 86 = .ok (.bipush 26, 2) := by decide +kernel
theorem dX5_readCall_88 : decode cX5_readCall 88 = .ok (.iload_n 2, 1) := by decide +kernel
theorem dX5_readCall_89 : decode cX5_readCall 89 = .ok (.iconst 1, 1) := by decide +kernel
theorem dX5_readCall_90 : decode cX5_readCall 90 = .ok (.iadd, 1) := by decide +kernel
theorem dX5_readCall_91 : decode cX5_readCall 91 = .ok (.imul, 1) := by decide +kernel
theorem dX5_readCall_92 : decode cX5_readCall 92 = .ok (.iload_n 3, 1) := by decide +kernel
theorem dX5_readCall_93 : decode cX5_readCall 93 = .ok (.iadd, 1) := by decide +kernel
theorem dX5_readCall_94 : decode cX5_readCall 94 = .ok (.iastore, 1) := by decide +kernel
theorem dX5_readCall_95 : decode cX5_readCall 95 = .ok (.aload_n 0, 1) := by decide +kernel
theorem dX5_readCall_96 : decode cX5_readCall 96 = .ok (.getfield 69, 3) := by decide +kernel
theorem dX5_readCall_99 : decode cX5_readCall 99 = .ok (.aload_n 0, 1) := by decide +kernel
theorem dX5_readCall_100 : decode cX5_readCall 100 = .ok (.getfield 151, 3) := by decide +kernel
theorem dX5_readCall_103 : decode cX5_readCall 103 = .ok (.iconst 1, 1) := by decide +kernel
theorem dX5_readCall_104 : decode cX5_readCall 104 = .ok (.isub, 1) := by decide +kernel
theorem dX5_readCall_105 : decode cX5_readCall 105 = .ok (.aload_n 0, 1) := by decide +kernel
theorem dX5_readCall_106 : decode cX5_readCall 106 = .ok (.getfield 141, 3) := by decide +kernel
theorem dX5_readCall_109 : decode cX5_readCall 109 = .ok (.iastore, 1) := by decide +kernel
theorem dX5_readCall_110 : decode cX5_readCall 110 = .ok (.aload_n 0, 1) := by decide +kernel
theorem dX5_readCall_111 : decode cX5_readCall 111 = .ok (.aload_n 0, 1) := by decide +kernel
theorem dX5_readCall_112 : decode cX5_readCall 112 = .ok (.getfield 135, 3) := by decide +kernel
theorem dX5_readCall_115 : decode cX5_readCall 115 = .ok (.ifCond .ne 15, 3) := by decide +kernel
theorem dX5_readCall_118 : decode cX5_readCall 118 = .ok (.aload_n 0, 1) := by decide +kernel
theorem dX5_readCall_119 : decode cX5_readCall 119 = .ok (.bipush 6, 2) := by decide +kernel
theorem dX5_readCall_121 : decode cX5_readCall 121 = .ok (.iload_n 3, 1) := by decide +kernel
theorem dX5_readCall_122 : decode cX5_readCall 122 = .ok (.iload_n 2, 1) := by decide +kernel
theorem dX5_readCall_123 : decode cX5_readCall 123 = .ok (.invokevirtual 183, 3) := by decide +kernel
theorem dX5_readCall_126 : decode cX5_readCall 126 = .ok (.iconst (-1), 1) := by decide +kernel
theorem dX5_readCall_127 : decode cX5_readCall 127 = .ok (.if_icmp .eq 7, 3) := by decide +kernel
theorem dX5_readCall_130 : decode cX5_readCall 130 = .ok (.iconst 1, 1) := by decide +kernel
theorem dX5_readCall_131 : decode cX5_readCall 131 = .ok (.goto 4, 3) := by decide +kernel
theorem dX5_readCall_134 : decode cX5_readCall 134 = .ok (.iconst 0, 1) := by decide +kernel
theorem dX5_readCall_135 : decode cX5_readCall 135 = .ok (.invokevirtual 172, 3) := by decide +kernel
theorem dX5_readCall_138 : decode cX5_readCall 138 = .ok (.aload_n 0, 1) := by decide +kernel
theorem dX5_readCall_139 : decode cX5_readCall 139 = .ok (.bipush 41, 2) := by decide +kernel
theorem dX5_readCall_141 : decode cX5_readCall 141 = .ok (.invokevirtual 127, 3) := by decide +kernel
theorem dX5_readCall_144 : decode cX5_readCall 144 = .ok (.ireturn, 1) := by decide +kernel
theorem dX5_calleeItem_0 : decode cX5_calleeItem 0 = .ok (.aload_n 0, 1) := by decide +kernel
theorem dX5_calleeItem_1 : decode cX5_calleeItem 1 = .ok (.bipush 6, 2) := by decide +kernel
theorem dX5_calleeItem_3 : decode cX5_calleeItem 3 = .ok (.aload_n 0, 1) := by decide +kernel
theorem dX5_calleeItem_4 : decode cX5_calleeItem 4 = .ok (.getfield 72, 3) := by decide +kernel
theorem dX5_calleeItem_7 : decode cX5_calleeItem 7 = .ok (.aload_n 0, 1) := by decide +kernel
theorem dX5_calleeItem_8 : decode cX5_calleeItem 8 = .ok (.getfield 151, 3) := by decide +kernel
theorem dX5_calleeItem_11 : decode cX5_calleeItem 11 = .ok (.iconst 1, 1) := by decide +kernel
theorem dX5_calleeItem_12 : decode cX5_calleeItem 12 = .ok (.isub, 1) := by decide +kernel
theorem dX5_calleeItem_13 : decode cX5_calleeItem 13 = .ok (.iaload, 1) := by decide +kernel
theorem dX5_calleeItem_14 : decode cX5_calleeItem 14 = .ok (.bipush 26, 2) := by decide +kernel
theorem dX5_calleeItem_16 : decode cX5_calleeItem 16 = .ok (.irem, 1) := by decide +kernel
theorem dX5_calleeItem_17 : decode cX5_calleeItem 17 = .ok (.aload_n 0, 1) := by decide +kernel
theorem dX5_calleeItem_18 : decode cX5_calleeItem 18 = .ok (.getfield 72, 3) := by decide +kernel
theorem dX5_calleeItem_21 : decode cX5_calleeItem 21 = .ok (.aload_n 0, 1) := by decide +kernel
theorem dX5_calleeItem_22 : decode cX5_calleeItem 22 = .ok (.getfield 151, 3) := by decide +kernel
theorem dX5_calleeItem_25 : decode cX5_calleeItem 25 = .ok (.iconst 1, 1) := by decide +kernel
theorem dX5_calleeItem_26 : decode cX5_calleeItem 26 = .ok (.isub, 1) := by decide +kernel
theorem dX5_calleeItem_27 : decode cX5_calleeItem 27 = .ok (.iaload, 1) := by decide +kernel
theorem dX5_calleeItem_28 : decode cX5_calleeItem 28 = .ok (.bipush 26, 2) := by decide +kernel
theorem dX5_calleeItem_30 : decode cX5_calleeItem 30 = .ok (.idiv, 1) := by decide +kernel
theorem dX5_calleeItem_31 : decode cX5_calleeItem 31 = .ok (.iconst 1, 1) := by decide +kernel
theorem dX5_calleeItem_32 : decode cX5_calleeItem 32 = .ok (.isub, 1) := by decide +kernel
theorem dX5_calleeItem_33 : decode cX5_calleeItem 33 = .ok (.invokevirtual 183, 3) := by decide +kernel
theorem dX5_calleeItem_36 : decode cX5_calleeItem 36 = .ok (.ireturn, 1) := by decide +kernel
theorem dX5_endCall_0 : decode cX5_endCall 0 = .ok (.aload_n 0, 1) := by decide +kernel
theorem dX5_endCall_1 : decode cX5_endCall 1 = .ok (.invokevirtual 187, 3) := by decide +kernel
theorem dX5_endCall_4 : decode cX5_endCall 4 = .ok (.istore_n 1, 1) := by decide +kernel
theorem dX5_endCall_5 : decode cX5_endCall 5 = .ok (.aload_n 0, 1) := by decide +kernel
theorem dX5_endCall_6 : decode cX5_endCall 6 = .ok (.aload_n 0, 1) := by decide +kernel
