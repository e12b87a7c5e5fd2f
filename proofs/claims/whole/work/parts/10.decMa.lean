theorem d_M_init_0 : decode b_M_init 0 = .ok (.aload_n 0, 1) := by decide +kernel
theorem d_M_init_1 : decode b_M_init 1 = .ok (.invokespecial 1, 3) := by decide +kernel
theorem d_M_init_4 : decode b_M_init 4 = .ok (.aload_n 0, 1) := by decide +kernel
theorem d_M_init_5 : decode b_M_init 5 = .ok (.sipush 204, 3) := by decide +kernel
theorem d_M_init_8 : decode b_M_init 8 = .ok (.newarray .int, 2) := by decide +kernel
theorem d_M_init_10 : decode b_M_init 10 = .ok (.putfield 7, 3) := by decide +kernel
theorem d_M_init_13 : decode b_M_init 13 = .ok (.aload_n 0, 1) := by decide +kernel
theorem d_M_init_14 : decode b_M_init 14 = .ok (.sipush 204, 3) := by decide +kernel
theorem d_M_init_17 : decode b_M_init 17 = .ok (.newarray .int, 2) := by decide +kernel
theorem d_M_init_19 : decode b_M_init 19 = .ok (.putfield 13, 3) := by decide +kernel
theorem d_M_init_22 : decode b_M_init 22 = .ok (.aload_n 0, 1) := by decide +kernel
theorem d_M_init_23 : decode b_M_init 23 = .ok (.sipush 204, 3) := by decide +kernel
theorem d_M_init_26 : decode b_M_init 26 = .ok (.newarray .int, 2) := by decide +kernel
theorem d_M_init_28 : decode b_M_init 28 = .ok (.putfield 16, 3) := by decide +kernel
theorem d_M_init_31 : decode b_M_init 31 = .ok (.aload_n 0, 1) := by decide +kernel
theorem d_M_init_32 : decode b_M_init 32 = .ok (.sipush 204, 3) := by decide +kernel
theorem d_M_init_35 : decode b_M_init 35 = .ok (.newarray .int, 2) := by decide +kernel
theorem d_M_init_37 : decode b_M_init 37 = .ok (.putfield 19, 3) := by decide +kernel
theorem d_M_init_40 : decode b_M_init 40 = .ok (.aload_n 0, 1) := by decide +kernel
theorem d_M_init_41 : decode b_M_init 41 = .ok (.sipush 204, 3) := by decide +kernel
theorem d_M_init_44 : decode b_M_init 44 = .ok (.newarray .int, 2) := by decide +kernel
theorem d_M_init_46 : decode b_M_init 46 = .ok (.putfield 22, 3) := by decide +kernel
theorem d_M_init_49 : decode b_M_init 49 = .ok (.aload_n 0, 1) := by decide +kernel
theorem d_M_init_50 : decode b_M_init 50 = .ok (.sipush 204, 3) := by decide +kernel
theorem d_M_init_53 : decode b_M_init 53 = .ok (.newarray .int, 2) := by decide +kernel
theorem d_M_init_55 : decode b_M_init 55 = .ok (.putfield 25, 3) := by decide +kernel
theorem d_M_init_58 : decode b_M_init 58 = .ok (.aload_n 0, 1) := by decide +kernel
theorem d_M_init_59 : decode b_M_init 59 = .ok (.sipush 204, 3) := by decide +kernel
theorem d_M_init_62 : decode b_M_init 62 = .ok (.newarray .int, 2) := by decide +kernel
theorem d_M_init_64 : decode b_M_init 64 = .ok (.putfield 28, 3) := by decide +kernel
theorem d_M_init_67 : decode b_M_init 67 = .ok (.aload_n 0, 1) := by decide +kernel
theorem d_M_init_68 : decode b_M_init 68 = .ok (.sipush 204, 3) := by decide +kernel
theorem d_M_init_71 : decode b_M_init 71 = .ok (.newarray .int, 2) := by decide +kernel
theorem d_M_init_73 : decode b_M_init 73 = .ok (.putfield 31, 3) := by decide +kernel
theorem d_M_init_76 : decode b_M_init 76 = .ok (.aload_n 0, 1) := by decide +kernel
theorem d_M_init_77 : decode b_M_init 77 = .ok (.sipush 1224, 3) := by decide +kernel
theorem d_M_init_80 : decode b_M_init 80 = .ok (.newarray .int, 2) := by decide +kernel
theorem d_M_init_82 : decode b_M_init 82 = .ok (.putfield 34, 3) := by decide +kernel
theorem d_M_init_85 : decode b_M_init 85 = .ok (.aload_n 0, 1) := by decide +kernel
theorem d_M_init_86 : decode b_M_init 86 = .ok (.bipush 24, 2) := by decide +kernel
theorem d_M_init_88 : decode b_M_init 88 = .ok (.newarray .int, 2) := by decide +kernel
theorem d_M_init_90 : decode b_M_init 90 = .ok (.putfield 37, 3) := by decide +kernel
theorem d_M_init_93 : decode b_M_init 93 = .ok (.aload_n 0, 1) := by decide +kernel
theorem d_M_init_94 : decode b_M_init 94 = .ok (.bipush 24, 2) := by decide +kernel
theorem d_M_init_96 : decode b_M_init 96 = .ok (.newarray .int, 2) := by decide +kernel
theorem d_M_init_98 : decode b_M_init 98 = .ok (.putfield 40, 3) := by decide +kernel
theorem d_M_init_101 : decode b_M_init 101 = .ok (.aload_n 0, 1) := by decide +kernel
theorem d_M_init_102 : decode b_M_init 102 = .ok (.bipush 6, 2) := by decide +kernel
theorem d_M_init_104 : decode b_M_init 104 = .ok (.newarray .int, 2) := by decide +kernel
theorem d_M_init_106 : decode b_M_init 106 = .ok (.putfield 43, 3) := by decide +kernel
theorem d_M_init_109 : decode b_M_init 109 = .ok (.aload_n 0, 1) := by decide +kernel
theorem d_M_init_110 : decode b_M_init 110 = .ok (.bipush 24, 2) := by decide +kernel
theorem d_M_init_112 : decode b_M_init 112 = .ok (.newarray .int, 2) := by decide +kernel
theorem d_M_init_114 : decode b_M_init 114 = .ok (.putfield 46, 3) := by decide +kernel
theorem d_M_init_117 : decode b_M_init 117 = .ok (.aload_n 0, 1) := by decide +kernel
theorem d_M_init_118 : decode b_M_init 118 = .ok (.bipush 24, 2) := by decide +kernel
theorem d_M_init_120 : decode b_M_init 120 = .ok (.newarray .int, 2) := by decide +kernel
theorem d_M_init_122 : decode b_M_init 122 = .ok (.putfield 49, 3) := by decide +kernel
theorem d_M_init_125 : decode b_M_init 125 = .ok (.aload_n 0, 1) := by decide +kernel
theorem d_M_init_126 : decode b_M_init 126 = .ok (.bipush 6, 2) := by decide +kernel
theorem d_M_init_128 : decode b_M_init 128 = .ok (.newarray .int, 2) := by decide +kernel
theorem d_M_init_130 : decode b_M_init 130 = .ok (.putfield 52, 3) := by decide +kernel
theorem d_M_init_133 : decode b_M_init 133 = .ok (.aload_n 0, 1) := by decide +kernel
theorem d_M_init_134 : decode b_M_init 134 = .ok (.bipush 6, 2) := by decide +kernel
theorem d_M_init_136 : decode b_M_init 136 = .ok (.newarray .int, 2) := by decide +kernel
theorem d_M_init_138 : decode b_M_init 138 = .ok (.putfield 55, 3) := by decide +kernel
theorem d_M_init_141 : decode b_M_init 141 = .ok (.aload_n 0, 1) := by decide +kernel
theorem d_M_init_142 : decode b_M_init 142 = .ok (.bipush 6, 2) := by decide +kernel
theorem d_M_init_144 : decode b_M_init 144 = .ok (.newarray .int, 2) := by decide +kernel
theorem d_M_init_146 : decode b_M_init 146 = .ok (.putfield 58, 3) := by decide +kernel
theorem d_M_init_149 : decode b_M_init 149 = .ok (.aload_n 0, 1) := by decide +kernel
theorem d_M_init_150 : decode b_M_init 150 = .ok (.bipush 61, 2) := by decide +kernel
theorem d_M_init_152 : decode b_M_init 152 = .ok (.newarray .int, 2) := by decide +kernel
theorem d_M_init_154 : decode b_M_init 154 = .ok (.putfield 61, 3) := by decide +kernel
theorem d_M_init_157 : decode b_M_init 157 = .ok (.aload_n 0, 1) := by decide +kernel
theorem d_M_init_158 : decode b_M_init 158 = .ok (.bipush 61, 2) := by decide +kernel
theorem d_M_init_160 : decode b_M_init 160 = .ok (.newarray .int, 2) := by decide +kernel
theorem d_M_init_162 : decode b_M_init 162 = .ok (.putfield 64, 3) := by decide +kernel
theorem d_M_init_165 : decode b_M_init 165 = .ok (.aload_n 0, 1) := by decide +kernel
theorem d_M_init_166 : decode b_M_init 166 = .ok (.bipush 61, 2) := by decide +kernel
theorem d_M_init_168 : decode b_M_init 168 = .ok (.newarray .int, 2) := by decide +kernel
theorem d_M_init_170 : decode b_M_init 170 = .ok (.putfield 67, 3) := by decide +kernel
theorem d_M_init_173 : decode b_M_init 173 = .ok (.aload_n 0, 1) := by decide +kernel
theorem d_M_init_174 : decode b_M_init 174 = .ok (.bipush 61, 2) := by decide +kernel
theorem d_M_init_176 : decode b_M_init 176 = .ok (.newarray .int, 2) := by decide +kernel
theorem d_M_init_178 : decode b_M_init 178 = .ok (.putfield 70, 3) := by decide +kernel
theorem d_M_init_181 : decode b_M_init 181 = .ok (.aload_n 0, 1) := by decide +kernel
theorem d_M_init_182 : decode b_M_init 182 = .ok (.bipush 61, 2) := by decide +kernel
theorem d_M_init_184 : decode b_M_init 184 = .ok (.newarray .int, 2) := by decide +kernel
theorem d_M_init_186 : decode b_M_init 186 = .ok (.putfield 73, 3) := by decide +kernel
theorem d_M_init_189 : decode b_M_init 189 = .ok (.aload_n 0, 1) := by decide +kernel
theorem d_M_init_190 : decode b_M_init 190 = .ok (.bipush 61, 2) := by decide +kernel
theorem d_M_init_192 : decode b_M_init 192 = .ok (.newarray .int, 2) := by decide +kernel
theorem d_M_init_194 : decode b_M_init 194 = .ok (.putfield 76, 3) := by decide +kernel
theorem d_M_init_197 : decode b_M_init 197 = .ok (.aload_n 0, 1) := by decide +kernel
theorem d_M_init_198 : decode b_M_init 198 = .ok (.bipush 61, 2) := by decide +kernel
theorem d_M_init_200 : decode b_M_init 200 = .ok (.newarray .int, 2) := by decide +kernel
theorem d_M_init_202 : decode b_M_init 202 = .ok (.putfield 79, 3) := by decide +kernel
theorem d_M_init_205 : decode b_M_init 205 = .ok (.aload_n 0, 1) := by decide +kernel
theorem d_M_init_206 : decode b_M_init 206 = .ok (.sipush 6100, 3) := by decide +kernel
theorem d_M_init_209 : decode b_M_init 209 = .ok (.newarray .byte, 2) := by decide +kernel
theorem d_M_init_211 : decode b_M_init 211 = .ok (.putfield 82, 3) := by decide +kernel
theorem d_M_init_214 : decode b_M_init 214 = .ok (.aload_n 0, 1) := by decide +kernel
theorem d_M_init_215 : decode b_M_init 215 = .ok (.bipush 61, 2) := by decide +kernel
theorem d_M_init_217 : decode b_M_init 217 = .ok (.newarray .boolean, 2) := by decide +kernel
theorem d_M_init_219 : decode b_M_init 219 = .ok (.putfield 86, 3) := by decide +kernel
theorem d_M_init_222 : decode b_M_init 222 = .ok (.aload_n 0, 1) := by decide +kernel
theorem d_M_init_223 : decode b_M_init 223 = .ok (.bipush 6, 2) := by decide +kernel
theorem d_M_init_225 : decode b_M_init 225 = .ok (.newarray .int, 2) := by decide +kernel
theorem d_M_init_227 : decode b_M_init 227 = .ok (.putfield 90, 3) := by decide +kernel
theorem d_M_init_230 : decode b_M_init 230 = .ok (.iconst 0, 1) := by decide +kernel
theorem d_M_init_231 : decode b_M_init 231 = .ok (.istore_n 1, 1) := by decide +kernel
theorem d_M_init_232 : decode b_M_init 232 = .ok (.iload_n 1, 1) := by decide +kernel
theorem d_M_init_233 : decode b_M_init 233 = .ok (.bipush 24, 2) := by decide +kernel
theorem d_M_init_235 : decode b_M_init 235 = .ok (.if_icmp .ge 16, 3) := by decide +kernel
theorem d_M_init_238 : decode b_M_init 238 = .ok (.aload_n 0, 1) := by decide +kernel
theorem d_M_init_239 : decode b_M_init 239 = .ok (.getfield 37, 3) := by decide +kernel
theorem d_M_init_242 : decode b_M_init 242 = .ok (.iload_n 1, 1) := by decide +kernel
theorem d_M_init_243 : decode b_M_init 243 = .ok (.iconst (-1), 1) := by decide +kernel
theorem d_M_init_244 : decode b_M_init 244 = .ok (.iastore, 1) := by decide +kernel
theorem d_M_init_245 : decode b_M_init 245 = .ok (.iinc 1 1, 3) := by decide +kernel
theorem d_M_init_248 : decode b_M_init 248 = .ok (.goto (-16), 3) := by decide +kernel
theorem d_M_init_251 : decode b_M_init 251 = .ok (.return_, 1) := by decide +kernel
theorem d_M_keyAt_0 : decode b_M_keyAt 0 = .ok (.aload_n 0, 1) := by decide +kernel
theorem d_M_keyAt_1 : decode b_M_keyAt 1 = .ok (.getfield 58, 3) := by decide +kernel
theorem d_M_keyAt_4 : decode b_M_keyAt 4 = .ok (.iload_n 1, 1) := by decide +kernel
theorem d_M_keyAt_5 : decode b_M_keyAt 5 = .ok (.iconst 4, 1) := by decide +kernel
theorem d_M_keyAt_6 : decode b_M_keyAt 6 = .ok (.idiv, 1) := by decide +kernel
theorem d_M_keyAt_7 : decode b_M_keyAt 7 = .ok (.iaload, 1) := by decide +kernel
theorem d_M_keyAt_8 : decode b_M_keyAt 8 = .ok (.ifCond .le 12, 3) := by decide +kernel
theorem d_M_keyAt_11 : decode b_M_keyAt 11 = .ok (.aload_n 0, 1) := by decide +kernel
theorem d_M_keyAt_12 : decode b_M_keyAt 12 = .ok (.getfield 46, 3) := by decide +kernel
theorem d_M_keyAt_15 : decode b_M_keyAt 15 = .ok (.iload_n 1, 1) := by decide +kernel
theorem d_M_keyAt_16 : decode b_M_keyAt 16 = .ok (.iaload, 1) := by decide +kernel
theorem d_M_keyAt_17 : decode b_M_keyAt 17 = .ok (.goto 9, 3) := by decide +kernel
theorem d_M_keyAt_20 : decode b_M_keyAt 20 = .ok (.aload_n 0, 1) := by decide +kernel
theorem d_M_keyAt_21 : decode b_M_keyAt 21 = .ok (.getfield 37, 3) := by decide +kernel
theorem d_M_keyAt_24 : decode b_M_keyAt 24 = .ok (.iload_n 1, 1) := by decide +kernel
theorem d_M_keyAt_25 : decode b_M_keyAt 25 = .ok (.iaload, 1) := by decide +kernel
theorem d_M_keyAt_26 : decode b_M_keyAt 26 = .ok (.ireturn, 1) := by decide +kernel
theorem d_M_valueAt_0 : decode b_M_valueAt 0 = .ok (.aload_n 0, 1) := by decide +kernel
theorem d_M_valueAt_1 : decode b_M_valueAt 1 = .ok (.getfield 58, 3) := by decide +kernel
theorem d_M_valueAt_4 : decode b_M_valueAt 4 = .ok (.iload_n 1, 1) := by decide +kernel
theorem d_M_valueAt_5 : decode b_M_valueAt 5 = .ok (.iconst 4, 1) := by decide +kernel
theorem d_M_valueAt_6 : decode b_M_valueAt 6 = .ok (.idiv, 1) := by decide +kernel
theorem d_M_valueAt_7 : decode b_M_valueAt 7 = .ok (.iaload, 1) := by decide +kernel
theorem d_M_valueAt_8 : decode b_M_valueAt 8 = .ok (.ifCond .le 12, 3) := by decide +kernel
theorem d_M_valueAt_11 : decode b_M_valueAt 11 = .ok (.aload_n 0, 1) := by decide +kernel
theorem d_M_valueAt_12 : decode b_M_valueAt 12 = .ok (.getfield 49, 3) := by decide +kernel
theorem d_M_valueAt_15 : decode b_M_valueAt 15 = .ok (.iload_n 1, 1) := by decide +kernel
theorem d_M_valueAt_16 : decode b_M_valueAt 16 = .ok (.iaload, 1) := by decide +kernel
theorem d_M_valueAt_17 : decode b_M_valueAt 17 = .ok (.goto 9, 3) := by decide +kernel
theorem d_M_valueAt_20 : decode b_M_valueAt 20 = .ok (.aload_n 0, 1) := by decide +kernel
theorem d_M_valueAt_21 : decode b_M_valueAt 21 = .ok (.getfield 40, 3) := by decide +kernel
theorem d_M_valueAt_24 : decode b_M_valueAt 24 = .ok (.iload_n 1, 1) := by decide +kernel
theorem d_M_valueAt_25 : decode b_M_valueAt 25 = .ok (.iaload, 1) := by decide +kernel
theorem d_M_valueAt_26 : decode b_M_valueAt 26 = .ok (.ireturn, 1) := by decide +kernel
theorem d_M_find_0 : decode b_M_find 0 = .ok (.iconst 0, 1) := by decide +kernel
theorem d_M_find_1 : decode b_M_find 1 = .ok (.istore_n 2, 1) := by decide +kernel
theorem d_M_find_2 : decode b_M_find 2 = .ok (.iload_n 2, 1) := by decide +kernel
theorem d_M_find_3 : decode b_M_find 3 = .ok (.bipush 24, 2) := by decide +kernel
theorem d_M_find_5 : decode b_M_find 5 = .ok (.if_icmp .ge 20, 3) := by decide +kernel
theorem d_M_find_8 : decode b_M_find 8 = .ok (.aload_n 0, 1) := by decide +kernel
theorem d_M_find_9 : decode b_M_find 9 = .ok (.iload_n 2, 1) := by decide +kernel
theorem d_M_find_10 : decode b_M_find 10 = .ok (.invokevirtual 93, 3) := by decide +kernel
theorem d_M_find_13 : decode b_M_find 13 = .ok (.iload_n 1, 1) := by decide +kernel
theorem d_M_find_14 : decode b_M_find 14 = .ok (.if_icmp .ne 5, 3) := by decide +kernel
theorem d_M_find_17 : decode b_M_find 17 = .ok (.iload_n 2, 1) := by decide +kernel
theorem d_M_find_18 : decode b_M_find 18 = .ok (.ireturn, 1) := by decide +kernel
theorem d_M_find_19 : decode b_M_find 19 = .ok (.iinc 2 1, 3) := by decide +kernel
theorem d_M_find_22 : decode b_M_find 22 = .ok (.goto (-20), 3) := by decide +kernel
theorem d_M_find_25 : decode b_M_find 25 = .ok (.iconst (-1), 1) := by decide +kernel
theorem d_M_find_26 : decode b_M_find 26 = .ok (.ireturn, 1) := by decide +kernel
theorem d_M_spill_0 : decode b_M_spill 0 = .ok (.aload_n 0, 1) := by decide +kernel
theorem d_M_spill_1 : decode b_M_spill 1 = .ok (.aload_n 0, 1) := by decide +kernel
theorem d_M_spill_2 : decode b_M_spill 2 = .ok (.getfield 97, 3) := by decide +kernel
theorem d_M_spill_5 : decode b_M_spill 5 = .ok (.aload_n 0, 1) := by decide +kernel
theorem d_M_spill_6 : decode b_M_spill 6 = .ok (.getfield 52, 3) := by decide +kernel
theorem d_M_spill_9 : decode b_M_spill 9 = .ok (.iload_n 1, 1) := by decide +kernel
theorem d_M_spill_10 : decode b_M_spill 10 = .ok (.iaload, 1) := by decide +kernel
theorem d_M_spill_11 : decode b_M_spill 11 = .ok (.if_icmp .ge 12, 3) := by decide +kernel
theorem d_M_spill_14 : decode b_M_spill 14 = .ok (.aload_n 0, 1) := by decide +kernel
theorem d_M_spill_15 : decode b_M_spill 15 = .ok (.getfield 52, 3) := by decide +kernel
theorem d_M_spill_18 : decode b_M_spill 18 = .ok (.iload_n 1, 1) := by decide +kernel
theorem d_M_spill_19 : decode b_M_spill 19 = .ok (.iaload, 1) := by decide +kernel
theorem d_M_spill_20 : decode b_M_spill 20 = .ok (.goto 7, 3) := by decide +kernel
theorem d_M_spill_23 : decode b_M_spill 23 = .ok (.aload_n 0, 1) := by decide +kernel
theorem d_M_spill_24 : decode b_M_spill 24 = .ok (.getfield 97, 3) := by decide +kernel
theorem d_M_spill_27 : decode b_M_spill 27 = .ok (.putfield 97, 3) := by decide +kernel
theorem d_M_spill_30 : decode b_M_spill 30 = .ok (.iconst 4, 1) := by decide +kernel
theorem d_M_spill_31 : decode b_M_spill 31 = .ok (.iload_n 1, 1) := by decide +kernel
theorem d_M_spill_32 : decode b_M_spill 32 = .ok (.imul, 1) := by decide +kernel
theorem d_M_spill_33 : decode b_M_spill 33 = .ok (.istore_n 2, 1) := by decide +kernel
theorem d_M_spill_34 : decode b_M_spill 34 = .ok (.iload_n 2, 1) := by decide +kernel
theorem d_M_spill_35 : decode b_M_spill 35 = .ok (.iconst 4, 1) := by decide +kernel
theorem d_M_spill_36 : decode b_M_spill 36 = .ok (.iload_n 1, 1) := by decide +kernel
theorem d_M_spill_37 : decode b_M_spill 37 = .ok (.imul, 1) := by decide +kernel
theorem d_M_spill_38 : decode b_M_spill 38 = .ok (.iconst 4, 1) := by decide +kernel
theorem d_M_spill_39 : decode b_M_spill 39 = .ok (.iadd, 1) := by decide +kernel
theorem d_M_spill_40 : decode b_M_spill 40 = .ok (.if_icmp .ge 33, 3) := by decide +kernel
theorem d_M_spill_43 : decode b_M_spill 43 = .ok (.aload_n 0, 1) := by decide +kernel
theorem d_M_spill_44 : decode b_M_spill 44 = .ok (.getfield 37, 3) := by decide +kernel
theorem d_M_spill_47 : decode b_M_spill 47 = .ok (.iload_n 2, 1) := by decide +kernel
theorem d_M_spill_48 : decode b_M_spill 48 = .ok (.aload_n 0, 1) := by decide +kernel
theorem d_M_spill_49 : decode b_M_spill 49 = .ok (.getfield 46, 3) := by decide +kernel
theorem d_M_spill_52 : decode b_M_spill 52 = .ok (.iload_n 2, 1) := by decide +kernel
theorem d_M_spill_53 : decode b_M_spill 53 = .ok (.iaload, 1) := by decide +kernel
theorem d_M_spill_54 : decode b_M_spill 54 = .ok (.iastore, 1) := by decide +kernel
theorem d_M_spill_55 : decode b_M_spill 55 = .ok (.aload_n 0, 1) := by decide +kernel
theorem d_M_spill_56 : decode b_M_spill 56 = .ok (.getfield 40, 3) := by decide +kernel
theorem d_M_spill_59 : decode b_M_spill 59 = .ok (.iload_n 2, 1) := by decide +kernel
theorem d_M_spill_60 : decode b_M_spill 60 = .ok (.aload_n 0, 1) := by decide +kernel
theorem d_M_spill_61 : decode b_M_spill 61 = .ok (.getfield 49, 3) := by decide +kernel
theorem d_M_spill_64 : decode b_M_spill 64 = .ok (.iload_n 2, 1) := by decide +kernel
theorem d_M_spill_65 : decode b_M_spill 65 = .ok (.iaload, 1) := by decide +kernel
theorem d_M_spill_66 : decode b_M_spill 66 = .ok (.iastore, 1) := by decide +kernel
theorem d_M_spill_67 : decode b_M_spill 67 = .ok (.iinc 2 1, 3) := by decide +kernel
theorem d_M_spill_70 : decode b_M_spill 70 = .ok (.goto (-36), 3) := by decide +kernel
theorem d_M_spill_73 : decode b_M_spill 73 = .ok (.aload_n 0, 1) := by decide +kernel
theorem d_M_spill_74 : decode b_M_spill 74 = .ok (.getfield 43, 3) := by decide +kernel
theorem d_M_spill_77 : decode b_M_spill 77 = .ok (.iload_n 1, 1) := by decide +kernel
theorem d_M_spill_78 : decode b_M_spill 78 = .ok (.aload_n 0, 1) := by decide +kernel
theorem d_M_spill_79 : decode b_M_spill 79 = .ok (.getfield 52, 3) := by decide +kernel
theorem d_M_spill_82 : decode b_M_spill 82 = .ok (.iload_n 1, 1) := by decide +kernel
theorem d_M_spill_83 : decode b_M_spill 83 = .ok (.iaload, 1) := by decide +kernel
theorem d_M_spill_84 : decode b_M_spill 84 = .ok (.iastore, 1) := by decide +kernel
theorem d_M_spill_85 : decode b_M_spill 85 = .ok (.aload_n 0, 1) := by decide +kernel
theorem d_M_spill_86 : decode b_M_spill 86 = .ok (.getfield 55, 3) := by decide +kernel
theorem d_M_spill_89 : decode b_M_spill 89 = .ok (.iload_n 1, 1) := by decide +kernel
theorem d_M_spill_90 : decode b_M_spill 90 = .ok (.iconst 0, 1) := by decide +kernel
theorem d_M_spill_91 : decode b_M_spill 91 = .ok (.iastore, 1) := by decide +kernel
theorem d_M_spill_92 : decode b_M_spill 92 = .ok (.aload_n 0, 1) := by decide +kernel
theorem d_M_spill_93 : decode b_M_spill 93 = .ok (.dup, 1) := by decide +kernel
theorem d_M_spill_94 : decode b_M_spill 94 = .ok (.getfield 101, 3) := by decide +kernel
theorem d_M_spill_97 : decode b_M_spill 97 = .ok (.iconst 1, 1) := by decide +kernel
theorem d_M_spill_98 : decode b_M_spill 98 = .ok (.iadd, 1) := by decide +kernel
theorem d_M_spill_99 : decode b_M_spill 99 = .ok (.putfield 101, 3) := by decide +kernel
theorem d_M_spill_102 : decode b_M_spill 102 = .ok (.return_, 1) := by decide +kernel
theorem d_M_fetch_0 : decode b_M_fetch 0 = .ok (.aload_n 0, 1) := by decide +kernel
theorem d_M_fetch_1 : decode b_M_fetch 1 = .ok (.dup, 1) := by decide +kernel
theorem d_M_fetch_2 : decode b_M_fetch 2 = .ok (.getfield 104, 3) := by decide +kernel
theorem d_M_fetch_5 : decode b_M_fetch 5 = .ok (.iconst 1, 1) := by decide +kernel
theorem d_M_fetch_6 : decode b_M_fetch 6 = .ok (.iadd, 1) := by decide +kernel
theorem d_M_fetch_7 : decode b_M_fetch 7 = .ok (.putfield 104, 3) := by decide +kernel
theorem d_M_fetch_10 : decode b_M_fetch 10 = .ok (.aload_n 0, 1) := by decide +kernel
theorem d_M_fetch_11 : decode b_M_fetch 11 = .ok (.getfield 58, 3) := by decide +kernel
theorem d_M_fetch_14 : decode b_M_fetch 14 = .ok (.iload_n 1, 1) := by decide +kernel
theorem d_M_fetch_15 : decode b_M_fetch 15 = .ok (.iaload, 1) := by decide +kernel
theorem d_M_fetch_16 : decode b_M_fetch 16 = .ok (.ifCond .ne 182, 3) := by decide +kernel
theorem d_M_fetch_19 : decode b_M_fetch 19 = .ok (.iconst 0, 1) := by decide +kernel
theorem d_M_fetch_20 : decode b_M_fetch 20 = .ok (.istore_n 2, 1) := by decide +kernel
theorem d_M_fetch_21 : decode b_M_fetch 21 = .ok (.iconst (-1), 1) := by decide +kernel
theorem d_M_fetch_22 : decode b_M_fetch 22 = .ok (.istore_n 3, 1) := by decide +kernel
theorem d_M_fetch_23 : decode b_M_fetch 23 = .ok (.iconst 0, 1) := by decide +kernel
theorem d_M_fetch_24 : decode b_M_fetch 24 = .ok (.istore 4, 2) := by decide +kernel
theorem d_M_fetch_26 : decode b_M_fetch 26 = .ok (.iload 4, 2) := by decide +kernel
theorem d_M_fetch_28 : decode b_M_fetch 28 = .ok (.bipush 6, 2) := by decide +kernel
theorem d_M_fetch_30 : decode b_M_fetch 30 = .ok (.if_icmp .ge 64, 3) := by decide +kernel
theorem d_M_fetch_33 : decode b_M_fetch 33 = .ok (.iload_n 2, 1) := by decide +kernel
theorem d_M_fetch_34 : decode b_M_fetch 34 = .ok (.aload_n 0, 1) := by decide +kernel
theorem d_M_fetch_35 : decode b_M_fetch 35 = .ok (.getfield 58, 3) := by decide +kernel
theorem d_M_fetch_38 : decode b_M_fetch 38 = .ok (.iload 4, 2) := by decide +kernel
theorem d_M_fetch_40 : decode b_M_fetch 40 = .ok (.iaload, 1) := by decide +kernel
theorem d_M_fetch_41 : decode b_M_fetch 41 = .ok (.ifCond .le 7, 3) := by decide +kernel
theorem d_M_fetch_44 : decode b_M_fetch 44 = .ok (.iconst 1, 1) := by decide +kernel
theorem d_M_fetch_45 : decode b_M_fetch 45 = .ok (.goto 4, 3) := by decide +kernel
theorem d_M_fetch_48 : decode b_M_fetch 48 = .ok (.iconst 0, 1) := by decide +kernel
theorem d_M_fetch_49 : decode b_M_fetch 49 = .ok (.iadd, 1) := by decide +kernel
theorem d_M_fetch_50 : decode b_M_fetch 50 = .ok (.istore_n 2, 1) := by decide +kernel
theorem d_M_fetch_51 : decode b_M_fetch 51 = .ok (.aload_n 0, 1) := by decide +kernel
theorem d_M_fetch_52 : decode b_M_fetch 52 = .ok (.getfield 58, 3) := by decide +kernel
theorem d_M_fetch_55 : decode b_M_fetch 55 = .ok (.iload 4, 2) := by decide +kernel
theorem d_M_fetch_57 : decode b_M_fetch 57 = .ok (.iaload, 1) := by decide +kernel
theorem d_M_fetch_58 : decode b_M_fetch 58 = .ok (.ifCond .le 28, 3) := by decide +kernel
theorem d_M_fetch_61 : decode b_M_fetch 61 = .ok (.iload_n 3, 1) := by decide +kernel
theorem d_M_fetch_62 : decode b_M_fetch 62 = .ok (.ifCond .lt 19, 3) := by decide +kernel
theorem d_M_fetch_65 : decode b_M_fetch 65 = .ok (.aload_n 0, 1) := by decide +kernel
theorem d_M_fetch_66 : decode b_M_fetch 66 = .ok (.getfield 58, 3) := by decide +kernel
theorem d_M_fetch_69 : decode b_M_fetch 69 = .ok (.iload 4, 2) := by decide +kernel
theorem d_M_fetch_71 : decode b_M_fetch 71 = .ok (.iaload, 1) := by decide +kernel
theorem d_M_fetch_72 : decode b_M_fetch 72 = .ok (.aload_n 0, 1) := by decide +kernel
theorem d_M_fetch_73 : decode b_M_fetch 73 = .ok (.getfield 58, 3) := by decide +kernel
theorem d_M_fetch_76 : decode b_M_fetch 76 = .ok (.iload_n 3, 1) := by decide +kernel
theorem d_M_fetch_77 : decode b_M_fetch 77 = .ok (.iaload, 1) := by decide +kernel
theorem d_M_fetch_78 : decode b_M_fetch 78 = .ok (.if_icmp .ge 8, 3) := by decide +kernel
theorem d_M_fetch_81 : decode b_M_fetch 81 = .ok (.iload 4, 2) := by decide +kernel
theorem d_M_fetch_83 : decode b_M_fetch 83 = .ok (.goto 4, 3) := by decide +kernel
theorem d_M_fetch_86 : decode b_M_fetch 86 = .ok (.iload_n 3, 1) := by decide +kernel
theorem d_M_fetch_87 : decode b_M_fetch 87 = .ok (.istore_n 3, 1) := by decide +kernel
theorem d_M_fetch_88 : decode b_M_fetch 88 = .ok (.iinc 4 1, 3) := by decide +kernel
theorem d_M_fetch_91 : decode b_M_fetch 91 = .ok (.goto (-65), 3) := by decide +kernel
theorem d_M_fetch_94 : decode b_M_fetch 94 = .ok (.iload_n 2, 1) := by decide +kernel
theorem d_M_fetch_95 : decode b_M_fetch 95 = .ok (.iconst 3, 1) := by decide +kernel
theorem d_M_fetch_96 : decode b_M_fetch 96 = .ok (.if_icmp .ne 24, 3) := by decide +kernel
theorem d_M_fetch_99 : decode b_M_fetch 99 = .ok (.aload_n 0, 1) := by decide +kernel
theorem d_M_fetch_100 : decode b_M_fetch 100 = .ok (.getfield 55, 3) := by decide +kernel
theorem d_M_fetch_103 : decode b_M_fetch 103 = .ok (.iload_n 3, 1) := by decide +kernel
theorem d_M_fetch_104 : decode b_M_fetch 104 = .ok (.iaload, 1) := by decide +kernel
theorem d_M_fetch_105 : decode b_M_fetch 105 = .ok (.ifCond .le 8, 3) := by decide +kernel
theorem d_M_fetch_108 : decode b_M_fetch 108 = .ok (.aload_n 0, 1) := by decide +kernel
theorem d_M_fetch_109 : decode b_M_fetch 109 = .ok (.iload_n 3, 1) := by decide +kernel
theorem d_M_fetch_110 : decode b_M_fetch 110 = .ok (.invokevirtual 107, 3) := by decide +kernel
theorem d_M_fetch_113 : decode b_M_fetch 113 = .ok (.aload_n 0, 1) := by decide +kernel
theorem d_M_fetch_114 : decode b_M_fetch 114 = .ok (.getfield 58, 3) := by decide +kernel
theorem d_M_fetch_117 : decode b_M_fetch 117 = .ok (.iload_n 3, 1) := by decide +kernel
theorem d_M_fetch_118 : decode b_M_fetch 118 = .ok (.iconst 0, 1) := by decide +kernel
theorem d_M_fetch_119 : decode b_M_fetch 119 = .ok (.iastore, 1) := by decide +kernel
theorem d_M_fetch_120 : decode b_M_fetch 120 = .ok (.iconst 4, 1) := by decide +kernel
theorem d_M_fetch_121 : decode b_M_fetch 121 = .ok (.iload_n 1, 1) := by decide +kernel
theorem d_M_fetch_122 : decode b_M_fetch 122 = .ok (.imul, 1) := by decide +kernel
theorem d_M_fetch_123 : decode b_M_fetch 123 = .ok (.istore 4, 2) := by decide +kernel
theorem d_M_fetch_125 : decode b_M_fetch 125 = .ok (.iload 4, 2) := by decide +kernel
theorem d_M_fetch_127 : decode b_M_fetch 127 = .ok (.iconst 4, 1) := by decide +kernel
theorem d_M_fetch_128 : decode b_M_fetch 128 = .ok (.iload_n 1, 1) := by decide +kernel
theorem d_M_fetch_129 : decode b_M_fetch 129 = .ok (.imul, 1) := by decide +kernel
theorem d_M_fetch_130 : decode b_M_fetch 130 = .ok (.iconst 4, 1) := by decide +kernel
theorem d_M_fetch_131 : decode b_M_fetch 131 = .ok (.iadd, 1) := by decide +kernel
theorem d_M_fetch_132 : decode b_M_fetch 132 = .ok (.if_icmp .ge 37, 3) := by decide +kernel
theorem d_M_fetch_135 : decode b_M_fetch 135 = .ok (.aload_n 0, 1) := by decide +kernel
theorem d_M_fetch_136 : decode b_M_fetch 136 = .ok (.getfield 46, 3) := by decide +kernel
theorem d_M_fetch_139 : decode b_M_fetch 139 = .ok (.iload 4, 2) := by decide +kernel
theorem d_M_fetch_141 : decode b_M_fetch 141 = .ok (.aload_n 0, 1) := by decide +kernel
theorem d_M_fetch_142 : decode b_M_fetch 142 = .ok (.getfield 37, 3) := by decide +kernel
theorem d_M_fetch_145 : decode b_M_fetch 145 = .ok (.iload 4, 2) := by decide +kernel
theorem d_M_fetch_147 : decode b_M_fetch 147 = .ok (.iaload, 1) := by decide +kernel
theorem d_M_fetch_148 : decode b_M_fetch 148 = .ok (.iastore, 1) := by decide +kernel
theorem d_M_fetch_149 : decode b_M_fetch 149 = .ok (.aload_n 0, 1) := by decide +kernel
theorem d_M_fetch_150 : decode b_M_fetch 150 = .ok (.getfield 49, 3) := by decide +kernel
theorem d_M_fetch_153 : decode b_M_fetch 153 = .ok (.iload 4, 2) := by decide +kernel
theorem d_M_fetch_155 : decode b_M_fetch 155 = .ok (.aload_n 0, 1) := by decide +kernel
theorem d_M_fetch_156 : decode b_M_fetch 156 = .ok (.getfield 40, 3) := by decide +kernel
theorem d_M_fetch_159 : decode b_M_fetch 159 = .ok (.iload 4, 2) := by decide +kernel
theorem d_M_fetch_161 : decode b_M_fetch 161 = .ok (.iaload, 1) := by decide +kernel
theorem d_M_fetch_162 : decode b_M_fetch 162 = .ok (.iastore, 1) := by decide +kernel
theorem d_M_fetch_163 : decode b_M_fetch 163 = .ok (.iinc 4 1, 3) := by decide +kernel
theorem d_M_fetch_166 : decode b_M_fetch 166 = .ok (.goto (-41), 3) := by decide +kernel
theorem d_M_fetch_169 : decode b_M_fetch 169 = .ok (.aload_n 0, 1) := by decide +kernel
theorem d_M_fetch_170 : decode b_M_fetch 170 = .ok (.getfield 52, 3) := by decide +kernel
theorem d_M_fetch_173 : decode b_M_fetch 173 = .ok (.iload_n 1, 1) := by decide +kernel
theorem d_M_fetch_174 : decode b_M_fetch 174 = .ok (.aload_n 0, 1) := by decide +kernel
theorem d_M_fetch_175 : decode b_M_fetch 175 = .ok (.getfield 43, 3) := by decide +kernel
theorem d_M_fetch_178 : decode b_M_fetch 178 = .ok (.iload_n 1, 1) := by decide +kernel
theorem d_M_fetch_179 : decode b_M_fetch 179 = .ok (.iaload, 1) := by decide +kernel
theorem d_M_fetch_180 : decode b_M_fetch 180 = .ok (.iastore, 1) := by decide +kernel
theorem d_M_fetch_181 : decode b_M_fetch 181 = .ok (.aload_n 0, 1) := by decide +kernel
theorem d_M_fetch_182 : decode b_M_fetch 182 = .ok (.getfield 55, 3) := by decide +kernel
theorem d_M_fetch_185 : decode b_M_fetch 185 = .ok (.iload_n 1, 1) := by decide +kernel
theorem d_M_fetch_186 : decode b_M_fetch 186 = .ok (.iconst 0, 1) := by decide +kernel
theorem d_M_fetch_187 : decode b_M_fetch 187 = .ok (.iastore, 1) := by decide +kernel
theorem d_M_fetch_188 : decode b_M_fetch 188 = .ok (.aload_n 0, 1) := by decide +kernel
theorem d_M_fetch_189 : decode b_M_fetch 189 = .ok (.dup, 1) := by decide +kernel
theorem d_M_fetch_190 : decode b_M_fetch 190 = .ok (.getfield 111, 3) := by decide +kernel
theorem d_M_fetch_193 : decode b_M_fetch 193 = .ok (.iconst 1, 1) := by decide +kernel
theorem d_M_fetch_194 : decode b_M_fetch 194 = .ok (.iadd, 1) := by decide +kernel
theorem d_M_fetch_195 : decode b_M_fetch 195 = .ok (.putfield 111, 3) := by decide +kernel
theorem d_M_fetch_198 : decode b_M_fetch 198 = .ok (.aload_n 0, 1) := by decide +kernel
theorem d_M_fetch_199 : decode b_M_fetch 199 = .ok (.getfield 58, 3) := by decide +kernel
theorem d_M_fetch_202 : decode b_M_fetch 202 = .ok (.iload_n 1, 1) := by decide +kernel
theorem d_M_fetch_203 : decode b_M_fetch 203 = .ok (.aload_n 0, 1) := by decide +kernel
theorem d_M_fetch_204 : decode b_M_fetch 204 = .ok (.getfield 104, 3) := by decide +kernel
theorem d_M_fetch_207 : decode b_M_fetch 207 = .ok (.iastore, 1) := by decide +kernel
theorem d_M_fetch_208 : decode b_M_fetch 208 = .ok (.return_, 1) := by decide +kernel
theorem d_M_apply_0 : decode b_M_apply 0 = .ok (.aload_n 0, 1) := by decide +kernel
theorem d_M_apply_1 : decode b_M_apply 1 = .ok (.getfield 16, 3) := by decide +kernel
theorem d_M_apply_4 : decode b_M_apply 4 = .ok (.iload_n 1, 1) := by decide +kernel
theorem d_M_apply_5 : decode b_M_apply 5 = .ok (.iaload, 1) := by decide +kernel
theorem d_M_apply_6 : decode b_M_apply 6 = .ok (.istore_n 2, 1) := by decide +kernel
theorem d_M_apply_7 : decode b_M_apply 7 = .ok (.iload_n 2, 1) := by decide +kernel
theorem d_M_apply_8 : decode b_M_apply 8 = .ok (.iconst 4, 1) := by decide +kernel
theorem d_M_apply_9 : decode b_M_apply 9 = .ok (.idiv, 1) := by decide +kernel
theorem d_M_apply_10 : decode b_M_apply 10 = .ok (.istore_n 3, 1) := by decide +kernel
theorem d_M_apply_11 : decode b_M_apply 11 = .ok (.aload_n 0, 1) := by decide +kernel
theorem d_M_apply_12 : decode b_M_apply 12 = .ok (.getfield 46, 3) := by decide +kernel
theorem d_M_apply_15 : decode b_M_apply 15 = .ok (.iload_n 2, 1) := by decide +kernel
theorem d_M_apply_16 : decode b_M_apply 16 = .ok (.aload_n 0, 1) := by decide +kernel
theorem d_M_apply_17 : decode b_M_apply 17 = .ok (.getfield 25, 3) := by decide +kernel
theorem d_M_apply_20 : decode b_M_apply 20 = .ok (.iload_n 1, 1) := by decide +kernel
theorem d_M_apply_21 : decode b_M_apply 21 = .ok (.iaload, 1) := by decide +kernel
theorem d_M_apply_22 : decode b_M_apply 22 = .ok (.iastore, 1) := by decide +kernel
theorem d_M_apply_23 : decode b_M_apply 23 = .ok (.aload_n 0, 1) := by decide +kernel
theorem d_M_apply_24 : decode b_M_apply 24 = .ok (.getfield 49, 3) := by decide +kernel
theorem d_M_apply_27 : decode b_M_apply 27 = .ok (.iload_n 2, 1) := by decide +kernel
theorem d_M_apply_28 : decode b_M_apply 28 = .ok (.aload_n 0, 1) := by decide +kernel
theorem d_M_apply_29 : decode b_M_apply 29 = .ok (.getfield 28, 3) := by decide +kernel
theorem d_M_apply_32 : decode b_M_apply 32 = .ok (.iload_n 1, 1) := by decide +kernel
theorem d_M_apply_33 : decode b_M_apply 33 = .ok (.iaload, 1) := by decide +kernel
theorem d_M_apply_34 : decode b_M_apply 34 = .ok (.iastore, 1) := by decide +kernel
theorem d_M_apply_35 : decode b_M_apply 35 = .ok (.aload_n 0, 1) := by decide +kernel
theorem d_M_apply_36 : decode b_M_apply 36 = .ok (.getfield 52, 3) := by decide +kernel
theorem d_M_apply_39 : decode b_M_apply 39 = .ok (.iload_n 3, 1) := by decide +kernel
theorem d_M_apply_40 : decode b_M_apply 40 = .ok (.iload_n 1, 1) := by decide +kernel
theorem d_M_apply_41 : decode b_M_apply 41 = .ok (.iastore, 1) := by decide +kernel
theorem d_M_apply_42 : decode b_M_apply 42 = .ok (.aload_n 0, 1) := by decide +kernel
theorem d_M_apply_43 : decode b_M_apply 43 = .ok (.getfield 55, 3) := by decide +kernel
theorem d_M_apply_46 : decode b_M_apply 46 = .ok (.iload_n 3, 1) := by decide +kernel
theorem d_M_apply_47 : decode b_M_apply 47 = .ok (.aload_n 0, 1) := by decide +kernel
theorem d_M_apply_48 : decode b_M_apply 48 = .ok (.getfield 55, 3) := by decide +kernel
theorem d_M_apply_51 : decode b_M_apply 51 = .ok (.iload_n 3, 1) := by decide +kernel
theorem d_M_apply_52 : decode b_M_apply 52 = .ok (.iaload, 1) := by decide +kernel
theorem d_M_apply_53 : decode b_M_apply 53 = .ok (.ifCond .ne 7, 3) := by decide +kernel
theorem d_M_apply_56 : decode b_M_apply 56 = .ok (.iload_n 1, 1) := by decide +kernel
theorem d_M_apply_57 : decode b_M_apply 57 = .ok (.goto 9, 3) := by decide +kernel
theorem d_M_apply_60 : decode b_M_apply 60 = .ok (.aload_n 0, 1) := by decide +kernel
theorem d_M_apply_61 : decode b_M_apply 61 = .ok (.getfield 55, 3) := by decide +kernel
theorem d_M_apply_64 : decode b_M_apply 64 = .ok (.iload_n 3, 1) := by decide +kernel
theorem d_M_apply_65 : decode b_M_apply 65 = .ok (.iaload, 1) := by decide +kernel
theorem d_M_apply_66 : decode b_M_apply 66 = .ok (.iastore, 1) := by decide +kernel
theorem d_M_apply_67 : decode b_M_apply 67 = .ok (.return_, 1) := by decide +kernel
theorem d_M_put_0 : decode b_M_put 0 = .ok (.aload_n 0, 1) := by decide +kernel
theorem d_M_put_1 : decode b_M_put 1 = .ok (.dup, 1) := by decide +kernel
theorem d_M_put_2 : decode b_M_put 2 = .ok (.getfield 114, 3) := by decide +kernel
theorem d_M_put_5 : decode b_M_put 5 = .ok (.iconst 1, 1) := by decide +kernel
theorem d_M_put_6 : decode b_M_put 6 = .ok (.iadd, 1) := by decide +kernel
theorem d_M_put_7 : decode b_M_put 7 = .ok (.putfield 114, 3) := by decide +kernel
theorem d_M_put_10 : decode b_M_put 10 = .ok (.aload_n 0, 1) := by decide +kernel
theorem d_M_put_11 : decode b_M_put 11 = .ok (.getfield 7, 3) := by decide +kernel
theorem d_M_put_14 : decode b_M_put 14 = .ok (.aload_n 0, 1) := by decide +kernel
theorem d_M_put_15 : decode b_M_put 15 = .ok (.getfield 114, 3) := by decide +kernel
theorem d_M_put_18 : decode b_M_put 18 = .ok (.iload_n 1, 1) := by decide +kernel
theorem d_M_put_19 : decode b_M_put 19 = .ok (.iastore, 1) := by decide +kernel
theorem d_M_put_20 : decode b_M_put 20 = .ok (.aload_n 0, 1) := by decide +kernel
theorem d_M_put_21 : decode b_M_put 21 = .ok (.getfield 13, 3) := by decide +kernel
theorem d_M_put_24 : decode b_M_put 24 = .ok (.aload_n 0, 1) := by decide +kernel
theorem d_M_put_25 : decode b_M_put 25 = .ok (.getfield 114, 3) := by decide +kernel
theorem d_M_put_28 : decode b_M_put 28 = .ok (.iload_n 2, 1) := by decide +kernel
theorem d_M_put_29 : decode b_M_put 29 = .ok (.iastore, 1) := by decide +kernel
theorem d_M_put_30 : decode b_M_put 30 = .ok (.aload_n 0, 1) := by decide +kernel
theorem d_M_put_31 : decode b_M_put 31 = .ok (.getfield 16, 3) := by decide +kernel
theorem d_M_put_34 : decode b_M_put 34 = .ok (.aload_n 0, 1) := by decide +kernel
theorem d_M_put_35 : decode b_M_put 35 = .ok (.getfield 114, 3) := by decide +kernel
theorem d_M_put_38 : decode b_M_put 38 = .ok (.iload_n 3, 1) := by decide +kernel
theorem d_M_put_39 : decode b_M_put 39 = .ok (.iastore, 1) := by decide +kernel
theorem d_M_put_40 : decode b_M_put 40 = .ok (.aload_n 0, 1) := by decide +kernel
theorem d_M_put_41 : decode b_M_put 41 = .ok (.getfield 114, 3) := by decide +kernel
theorem d_M_put_44 : decode b_M_put 44 = .ok (.ireturn, 1) := by decide +kernel
theorem d_M_countOf_0 : decode b_M_countOf 0 = .ok (.iconst 0, 1) := by decide +kernel
theorem d_M_countOf_1 : decode b_M_countOf 1 = .ok (.istore_n 2, 1) := by decide +kernel
theorem d_M_countOf_2 : decode b_M_countOf 2 = .ok (.iconst 1, 1) := by decide +kernel
theorem d_M_countOf_3 : decode b_M_countOf 3 = .ok (.istore_n 3, 1) := by decide +kernel
theorem d_M_countOf_4 : decode b_M_countOf 4 = .ok (.iload_n 3, 1) := by decide +kernel
theorem d_M_countOf_5 : decode b_M_countOf 5 = .ok (.aload_n 0, 1) := by decide +kernel
theorem d_M_countOf_6 : decode b_M_countOf 6 = .ok (.getfield 114, 3) := by decide +kernel
theorem d_M_countOf_9 : decode b_M_countOf 9 = .ok (.if_icmp .gt 27, 3) := by decide +kernel
theorem d_M_countOf_12 : decode b_M_countOf 12 = .ok (.iload_n 2, 1) := by decide +kernel
theorem d_M_countOf_13 : decode b_M_countOf 13 = .ok (.aload_n 0, 1) := by decide +kernel
theorem d_M_countOf_14 : decode b_M_countOf 14 = .ok (.getfield 7, 3) := by decide +kernel
theorem d_M_countOf_17 : decode b_M_countOf 17 = .ok (.iload_n 3, 1) := by decide +kernel
theorem d_M_countOf_18 : decode b_M_countOf 18 = .ok (.iaload, 1) := by decide +kernel
theorem d_M_countOf_19 : decode b_M_countOf 19 = .ok (.iload_n 1, 1) := by decide +kernel
theorem d_M_countOf_20 : decode b_M_countOf 20 = .ok (.if_icmp .ne 7, 3) := by decide +kernel
theorem d_M_countOf_23 : decode b_M_countOf 23 = .ok (.iconst 1, 1) := by decide +kernel
theorem d_M_countOf_24 : decode b_M_countOf 24 = .ok (.goto 4, 3) := by decide +kernel
theorem d_M_countOf_27 : decode b_M_countOf 27 = .ok (.iconst 0, 1) := by decide +kernel
theorem d_M_countOf_28 : decode b_M_countOf 28 = .ok (.iadd, 1) := by decide +kernel
theorem d_M_countOf_29 : decode b_M_countOf 29 = .ok (.istore_n 2, 1) := by decide +kernel
theorem d_M_countOf_30 : decode b_M_countOf 30 = .ok (.iinc 3 1, 3) := by decide +kernel
theorem d_M_countOf_33 : decode b_M_countOf 33 = .ok (.goto (-29), 3) := by decide +kernel
theorem d_M_countOf_36 : decode b_M_countOf 36 = .ok (.iload_n 2, 1) := by decide +kernel
theorem d_M_countOf_37 : decode b_M_countOf 37 = .ok (.ireturn, 1) := by decide +kernel
theorem d_M_committed_0 : decode b_M_committed 0 = .ok (.iconst 1, 1) := by decide +kernel
theorem d_M_committed_1 : decode b_M_committed 1 = .ok (.istore_n 2, 1) := by decide +kernel
theorem d_M_committed_2 : decode b_M_committed 2 = .ok (.iload_n 2, 1) := by decide +kernel
theorem d_M_committed_3 : decode b_M_committed 3 = .ok (.aload_n 0, 1) := by decide +kernel
theorem d_M_committed_4 : decode b_M_committed 4 = .ok (.getfield 114, 3) := by decide +kernel
theorem d_M_committed_7 : decode b_M_committed 7 = .ok (.if_icmp .gt 31, 3) := by decide +kernel
theorem d_M_committed_10 : decode b_M_committed 10 = .ok (.aload_n 0, 1) := by decide +kernel
theorem d_M_committed_11 : decode b_M_committed 11 = .ok (.getfield 7, 3) := by decide +kernel
theorem d_M_committed_14 : decode b_M_committed 14 = .ok (.iload_n 2, 1) := by decide +kernel
theorem d_M_committed_15 : decode b_M_committed 15 = .ok (.iaload, 1) := by decide +kernel
theorem d_M_committed_16 : decode b_M_committed 16 = .ok (.iconst 3, 1) := by decide +kernel
theorem d_M_committed_17 : decode b_M_committed 17 = .ok (.if_icmp .ne 15, 3) := by decide +kernel
theorem d_M_committed_20 : decode b_M_committed 20 = .ok (.aload_n 0, 1) := by decide +kernel
theorem d_M_committed_21 : decode b_M_committed 21 = .ok (.getfield 13, 3) := by decide +kernel
theorem d_M_committed_24 : decode b_M_committed 24 = .ok (.iload_n 2, 1) := by decide +kernel
theorem d_M_committed_25 : decode b_M_committed 25 = .ok (.iaload, 1) := by decide +kernel
theorem d_M_committed_26 : decode b_M_committed 26 = .ok (.iload_n 1, 1) := by decide +kernel
theorem d_M_committed_27 : decode b_M_committed 27 = .ok (.if_icmp .ne 5, 3) := by decide +kernel
theorem d_M_committed_30 : decode b_M_committed 30 = .ok (.iconst 1, 1) := by decide +kernel
theorem d_M_committed_31 : decode b_M_committed 31 = .ok (.ireturn, 1) := by decide +kernel
theorem d_M_committed_32 : decode b_M_committed 32 = .ok (.iinc 2 1, 3) := by decide +kernel
theorem d_M_committed_35 : decode b_M_committed 35 = .ok (.goto (-33), 3) := by decide +kernel
theorem d_M_committed_38 : decode b_M_committed 38 = .ok (.iconst 0, 1) := by decide +kernel
theorem d_M_committed_39 : decode b_M_committed 39 = .ok (.ireturn, 1) := by decide +kernel
theorem d_M_open_0 : decode b_M_open 0 = .ok (.aload_n 0, 1) := by decide +kernel
theorem d_M_open_1 : decode b_M_open 1 = .ok (.getfield 114, 3) := by decide +kernel
theorem d_M_open_4 : decode b_M_open 4 = .ok (.istore_n 2, 1) := by decide +kernel
theorem d_M_open_5 : decode b_M_open 5 = .ok (.iload_n 2, 1) := by decide +kernel
theorem d_M_open_6 : decode b_M_open 6 = .ok (.ifCond .le 110, 3) := by decide +kernel
theorem d_M_open_9 : decode b_M_open 9 = .ok (.aload_n 0, 1) := by decide +kernel
theorem d_M_open_10 : decode b_M_open 10 = .ok (.getfield 7, 3) := by decide +kernel
theorem d_M_open_13 : decode b_M_open 13 = .ok (.iload_n 2, 1) := by decide +kernel
theorem d_M_open_14 : decode b_M_open 14 = .ok (.iaload, 1) := by decide +kernel
theorem d_M_open_15 : decode b_M_open 15 = .ok (.iconst 1, 1) := by decide +kernel
theorem d_M_open_16 : decode b_M_open 16 = .ok (.if_icmp .ne 34, 3) := by decide +kernel
theorem d_M_open_19 : decode b_M_open 19 = .ok (.iload_n 1, 1) := by decide +kernel
theorem d_M_open_20 : decode b_M_open 20 = .ok (.ifCond .eq 13, 3) := by decide +kernel
theorem d_M_open_23 : decode b_M_open 23 = .ok (.aload_n 0, 1) := by decide +kernel
theorem d_M_open_24 : decode b_M_open 24 = .ok (.getfield 13, 3) := by decide +kernel
theorem d_M_open_27 : decode b_M_open 27 = .ok (.iload_n 2, 1) := by decide +kernel
theorem d_M_open_28 : decode b_M_open 28 = .ok (.iaload, 1) := by decide +kernel
theorem d_M_open_29 : decode b_M_open 29 = .ok (.iload_n 1, 1) := by decide +kernel
theorem d_M_open_30 : decode b_M_open 30 = .ok (.if_icmp .ne 20, 3) := by decide +kernel
theorem d_M_open_33 : decode b_M_open 33 = .ok (.aload_n 0, 1) := by decide +kernel
theorem d_M_open_34 : decode b_M_open 34 = .ok (.aload_n 0, 1) := by decide +kernel
theorem d_M_open_35 : decode b_M_open 35 = .ok (.getfield 13, 3) := by decide +kernel
theorem d_M_open_38 : decode b_M_open 38 = .ok (.iload_n 2, 1) := by decide +kernel
theorem d_M_open_39 : decode b_M_open 39 = .ok (.iaload, 1) := by decide +kernel
theorem d_M_open_40 : decode b_M_open 40 = .ok (.invokevirtual 117, 3) := by decide +kernel
theorem d_M_open_43 : decode b_M_open 43 = .ok (.ifCond .ne 7, 3) := by decide +kernel
theorem d_M_open_46 : decode b_M_open 46 = .ok (.iconst 1, 1) := by decide +kernel
theorem d_M_open_47 : decode b_M_open 47 = .ok (.goto 4, 3) := by decide +kernel
theorem d_M_open_50 : decode b_M_open 50 = .ok (.iconst 0, 1) := by decide +kernel
theorem d_M_open_51 : decode b_M_open 51 = .ok (.istore_n 3, 1) := by decide +kernel
theorem d_M_open_52 : decode b_M_open 52 = .ok (.iload_n 2, 1) := by decide +kernel
theorem d_M_open_53 : decode b_M_open 53 = .ok (.iconst 1, 1) := by decide +kernel
theorem d_M_open_54 : decode b_M_open 54 = .ok (.iadd, 1) := by decide +kernel
theorem d_M_open_55 : decode b_M_open 55 = .ok (.istore 4, 2) := by decide +kernel
theorem d_M_open_57 : decode b_M_open 57 = .ok (.iload 4, 2) := by decide +kernel
theorem d_M_open_59 : decode b_M_open 59 = .ok (.aload_n 0, 1) := by decide +kernel
theorem d_M_open_60 : decode b_M_open 60 = .ok (.getfield 114, 3) := by decide +kernel
theorem d_M_open_63 : decode b_M_open 63 = .ok (.if_icmp .gt 41, 3) := by decide +kernel
theorem d_M_open_66 : decode b_M_open 66 = .ok (.iload_n 3, 1) := by decide +kernel
theorem d_M_open_67 : decode b_M_open 67 = .ok (.ifCond .eq 37, 3) := by decide +kernel
theorem d_M_open_70 : decode b_M_open 70 = .ok (.aload_n 0, 1) := by decide +kernel
theorem d_M_open_71 : decode b_M_open 71 = .ok (.getfield 7, 3) := by decide +kernel
theorem d_M_open_74 : decode b_M_open 74 = .ok (.iload 4, 2) := by decide +kernel
theorem d_M_open_76 : decode b_M_open 76 = .ok (.iaload, 1) := by decide +kernel
theorem d_M_open_77 : decode b_M_open 77 = .ok (.iconst 2, 1) := by decide +kernel
theorem d_M_open_78 : decode b_M_open 78 = .ok (.if_icmp .ne 14, 3) := by decide +kernel
theorem d_M_open_81 : decode b_M_open 81 = .ok (.aload_n 0, 1) := by decide +kernel
theorem d_M_open_82 : decode b_M_open 82 = .ok (.getfield 31, 3) := by decide +kernel
theorem d_M_open_85 : decode b_M_open 85 = .ok (.iload 4, 2) := by decide +kernel
theorem d_M_open_87 : decode b_M_open 87 = .ok (.iaload, 1) := by decide +kernel
theorem d_M_open_88 : decode b_M_open 88 = .ok (.iload_n 2, 1) := by decide +kernel
theorem d_M_open_89 : decode b_M_open 89 = .ok (.if_icmp .eq 7, 3) := by decide +kernel
theorem d_M_open_92 : decode b_M_open 92 = .ok (.iconst 1, 1) := by decide +kernel
theorem d_M_open_93 : decode b_M_open 93 = .ok (.goto 4, 3) := by decide +kernel
theorem d_M_open_96 : decode b_M_open 96 = .ok (.iconst 0, 1) := by decide +kernel
theorem d_M_open_97 : decode b_M_open 97 = .ok (.istore_n 3, 1) := by decide +kernel
theorem d_M_open_98 : decode b_M_open 98 = .ok (.iinc 4 1, 3) := by decide +kernel
theorem d_M_open_101 : decode b_M_open 101 = .ok (.goto (-44), 3) := by decide +kernel
theorem d_M_open_104 : decode b_M_open 104 = .ok (.iload_n 3, 1) := by decide +kernel
theorem d_M_open_105 : decode b_M_open 105 = .ok (.ifCond .eq 5, 3) := by decide +kernel
theorem d_M_open_108 : decode b_M_open 108 = .ok (.iload_n 2, 1) := by decide +kernel
theorem d_M_open_109 : decode b_M_open 109 = .ok (.ireturn, 1) := by decide +kernel
theorem d_M_open_110 : decode b_M_open 110 = .ok (.iinc 2 (-1), 3) := by decide +kernel
theorem d_M_open_113 : decode b_M_open 113 = .ok (.goto (-108), 3) := by decide +kernel
theorem d_M_open_116 : decode b_M_open 116 = .ok (.iconst 0, 1) := by decide +kernel
theorem d_M_open_117 : decode b_M_open 117 = .ok (.ireturn, 1) := by decide +kernel
theorem d_M_takeBack_0 : decode b_M_takeBack 0 = .ok (.aload_n 0, 1) := by decide +kernel
theorem d_M_takeBack_1 : decode b_M_takeBack 1 = .ok (.aload_n 0, 1) := by decide +kernel
theorem d_M_takeBack_2 : decode b_M_takeBack 2 = .ok (.getfield 16, 3) := by decide +kernel
theorem d_M_takeBack_5 : decode b_M_takeBack 5 = .ok (.iload_n 1, 1) := by decide +kernel
theorem d_M_takeBack_6 : decode b_M_takeBack 6 = .ok (.iaload, 1) := by decide +kernel
theorem d_M_takeBack_7 : decode b_M_takeBack 7 = .ok (.iconst 4, 1) := by decide +kernel
theorem d_M_takeBack_8 : decode b_M_takeBack 8 = .ok (.idiv, 1) := by decide +kernel
theorem d_M_takeBack_9 : decode b_M_takeBack 9 = .ok (.invokevirtual 121, 3) := by decide +kernel
theorem d_M_takeBack_12 : decode b_M_takeBack 12 = .ok (.aload_n 0, 1) := by decide +kernel
theorem d_M_takeBack_13 : decode b_M_takeBack 13 = .ok (.iconst 2, 1) := by decide +kernel
theorem d_M_takeBack_14 : decode b_M_takeBack 14 = .ok (.aload_n 0, 1) := by decide +kernel
theorem d_M_takeBack_15 : decode b_M_takeBack 15 = .ok (.getfield 13, 3) := by decide +kernel
theorem d_M_takeBack_18 : decode b_M_takeBack 18 = .ok (.iload_n 1, 1) := by decide +kernel
theorem d_M_takeBack_19 : decode b_M_takeBack 19 = .ok (.iaload, 1) := by decide +kernel
theorem d_M_takeBack_20 : decode b_M_takeBack 20 = .ok (.aload_n 0, 1) := by decide +kernel
theorem d_M_takeBack_21 : decode b_M_takeBack 21 = .ok (.getfield 16, 3) := by decide +kernel
theorem d_M_takeBack_24 : decode b_M_takeBack 24 = .ok (.iload_n 1, 1) := by decide +kernel
theorem d_M_takeBack_25 : decode b_M_takeBack 25 = .ok (.iaload, 1) := by decide +kernel
theorem d_M_takeBack_26 : decode b_M_takeBack 26 = .ok (.invokevirtual 124, 3) := by decide +kernel
theorem d_M_takeBack_29 : decode b_M_takeBack 29 = .ok (.istore_n 2, 1) := by decide +kernel
theorem d_M_takeBack_30 : decode b_M_takeBack 30 = .ok (.aload_n 0, 1) := by decide +kernel
theorem d_M_takeBack_31 : decode b_M_takeBack 31 = .ok (.getfield 31, 3) := by decide +kernel
theorem d_M_takeBack_34 : decode b_M_takeBack 34 = .ok (.iload_n 2, 1) := by decide +kernel
theorem d_M_takeBack_35 : decode b_M_takeBack 35 = .ok (.iload_n 1, 1) := by decide +kernel
theorem d_M_takeBack_36 : decode b_M_takeBack 36 = .ok (.iastore, 1) := by decide +kernel
theorem d_M_takeBack_37 : decode b_M_takeBack 37 = .ok (.aload_n 0, 1) := by decide +kernel
theorem d_M_takeBack_38 : decode b_M_takeBack 38 = .ok (.getfield 25, 3) := by decide +kernel
theorem d_M_takeBack_41 : decode b_M_takeBack 41 = .ok (.iload_n 2, 1) := by decide +kernel
theorem d_M_takeBack_42 : decode b_M_takeBack 42 = .ok (.aload_n 0, 1) := by decide +kernel
theorem d_M_takeBack_43 : decode b_M_takeBack 43 = .ok (.getfield 19, 3) := by decide +kernel
theorem d_M_takeBack_46 : decode b_M_takeBack 46 = .ok (.iload_n 1, 1) := by decide +kernel
theorem d_M_takeBack_47 : decode b_M_takeBack 47 = .ok (.iaload, 1) := by decide +kernel
theorem d_M_takeBack_48 : decode b_M_takeBack 48 = .ok (.iastore, 1) := by decide +kernel
theorem d_M_takeBack_49 : decode b_M_takeBack 49 = .ok (.aload_n 0, 1) := by decide +kernel
theorem d_M_takeBack_50 : decode b_M_takeBack 50 = .ok (.getfield 28, 3) := by decide +kernel
theorem d_M_takeBack_53 : decode b_M_takeBack 53 = .ok (.iload_n 2, 1) := by decide +kernel
theorem d_M_takeBack_54 : decode b_M_takeBack 54 = .ok (.aload_n 0, 1) := by decide +kernel
theorem d_M_takeBack_55 : decode b_M_takeBack 55 = .ok (.getfield 22, 3) := by decide +kernel
theorem d_M_takeBack_58 : decode b_M_takeBack 58 = .ok (.iload_n 1, 1) := by decide +kernel
theorem d_M_takeBack_59 : decode b_M_takeBack 59 = .ok (.iaload, 1) := by decide +kernel
theorem d_M_takeBack_60 : decode b_M_takeBack 60 = .ok (.iastore, 1) := by decide +kernel
theorem d_M_takeBack_61 : decode b_M_takeBack 61 = .ok (.aload_n 0, 1) := by decide +kernel
theorem d_M_takeBack_62 : decode b_M_takeBack 62 = .ok (.iload_n 2, 1) := by decide +kernel
theorem d_M_takeBack_63 : decode b_M_takeBack 63 = .ok (.invokevirtual 128, 3) := by decide +kernel
theorem d_M_takeBack_66 : decode b_M_takeBack 66 = .ok (.return_, 1) := by decide +kernel
theorem d_M_live_0 : decode b_M_live 0 = .ok (.aload_n 0, 1) := by decide +kernel
theorem d_M_live_1 : decode b_M_live 1 = .ok (.getfield 61, 3) := by decide +kernel
theorem d_M_live_4 : decode b_M_live 4 = .ok (.iload_n 1, 1) := by decide +kernel
theorem d_M_live_5 : decode b_M_live 5 = .ok (.iaload, 1) := by decide +kernel
theorem d_M_live_6 : decode b_M_live 6 = .ok (.iconst 1, 1) := by decide +kernel
theorem d_M_live_7 : decode b_M_live 7 = .ok (.if_icmp .lt 17, 3) := by decide +kernel
theorem d_M_live_10 : decode b_M_live 10 = .ok (.aload_n 0, 1) := by decide +kernel
theorem d_M_live_11 : decode b_M_live 11 = .ok (.getfield 61, 3) := by decide +kernel
theorem d_M_live_14 : decode b_M_live 14 = .ok (.iload_n 1, 1) := by decide +kernel
theorem d_M_live_15 : decode b_M_live 15 = .ok (.iaload, 1) := by decide +kernel
theorem d_M_live_16 : decode b_M_live 16 = .ok (.iconst 3, 1) := by decide +kernel
theorem d_M_live_17 : decode b_M_live 17 = .ok (.if_icmp .gt 7, 3) := by decide +kernel
theorem d_M_live_20 : decode b_M_live 20 = .ok (.iconst 1, 1) := by decide +kernel
theorem d_M_live_21 : decode b_M_live 21 = .ok (.goto 4, 3) := by decide +kernel
theorem d_M_live_24 : decode b_M_live 24 = .ok (.iconst 0, 1) := by decide +kernel
theorem d_M_live_25 : decode b_M_live 25 = .ok (.ireturn, 1) := by decide +kernel
theorem d_M_unlock_0 : decode b_M_unlock 0 = .ok (.iconst 0, 1) := by decide +kernel
theorem d_M_unlock_1 : decode b_M_unlock 1 = .ok (.istore_n 2, 1) := by decide +kernel
theorem d_M_unlock_2 : decode b_M_unlock 2 = .ok (.iload_n 2, 1) := by decide +kernel
theorem d_M_unlock_3 : decode b_M_unlock 3 = .ok (.bipush 100, 2) := by decide +kernel
theorem d_M_unlock_5 : decode b_M_unlock 5 = .ok (.if_icmp .ge 21, 3) := by decide +kernel
theorem d_M_unlock_8 : decode b_M_unlock 8 = .ok (.aload_n 0, 1) := by decide +kernel
theorem d_M_unlock_9 : decode b_M_unlock 9 = .ok (.getfield 82, 3) := by decide +kernel
theorem d_M_unlock_12 : decode b_M_unlock 12 = .ok (.bipush 100, 2) := by decide +kernel
theorem d_M_unlock_14 : decode b_M_unlock 14 = .ok (.iload_n 1, 1) := by decide +kernel
theorem d_M_unlock_15 : decode b_M_unlock 15 = .ok (.imul, 1) := by decide +kernel
theorem d_M_unlock_16 : decode b_M_unlock 16 = .ok (.iload_n 2, 1) := by decide +kernel
theorem d_M_unlock_17 : decode b_M_unlock 17 = .ok (.iadd, 1) := by decide +kernel
theorem d_M_unlock_18 : decode b_M_unlock 18 = .ok (.iconst 0, 1) := by decide +kernel
theorem d_M_unlock_19 : decode b_M_unlock 19 = .ok (.bastore, 1) := by decide +kernel
theorem d_M_unlock_20 : decode b_M_unlock 20 = .ok (.iinc 2 1, 3) := by decide +kernel
theorem d_M_unlock_23 : decode b_M_unlock 23 = .ok (.goto (-21), 3) := by decide +kernel
theorem d_M_unlock_26 : decode b_M_unlock 26 = .ok (.return_, 1) := by decide +kernel
theorem d_M_conflicts_0 : decode b_M_conflicts 0 = .ok (.aload_n 0, 1) := by decide +kernel
theorem d_M_conflicts_1 : decode b_M_conflicts 1 = .ok (.getfield 82, 3) := by decide +kernel
theorem d_M_conflicts_4 : decode b_M_conflicts 4 = .ok (.bipush 100, 2) := by decide +kernel
theorem d_M_conflicts_6 : decode b_M_conflicts 6 = .ok (.iload_n 2, 1) := by decide +kernel
theorem d_M_conflicts_7 : decode b_M_conflicts 7 = .ok (.imul, 1) := by decide +kernel
theorem d_M_conflicts_8 : decode b_M_conflicts 8 = .ok (.aload_n 0, 1) := by decide +kernel
theorem d_M_conflicts_9 : decode b_M_conflicts 9 = .ok (.getfield 70, 3) := by decide +kernel
theorem d_M_conflicts_12 : decode b_M_conflicts 12 = .ok (.iload_n 1, 1) := by decide +kernel
theorem d_M_conflicts_13 : decode b_M_conflicts 13 = .ok (.iaload, 1) := by decide +kernel
theorem d_M_conflicts_14 : decode b_M_conflicts 14 = .ok (.iadd, 1) := by decide +kernel
theorem d_M_conflicts_15 : decode b_M_conflicts 15 = .ok (.baload, 1) := by decide +kernel
theorem d_M_conflicts_16 : decode b_M_conflicts 16 = .ok (.istore_n 3, 1) := by decide +kernel
theorem d_M_conflicts_17 : decode b_M_conflicts 17 = .ok (.iload_n 2, 1) := by decide +kernel
theorem d_M_conflicts_18 : decode b_M_conflicts 18 = .ok (.iload_n 1, 1) := by decide +kernel
theorem d_M_conflicts_19 : decode b_M_conflicts 19 = .ok (.if_icmp .eq 26, 3) := by decide +kernel
theorem d_M_conflicts_22 : decode b_M_conflicts 22 = .ok (.iload_n 3, 1) := by decide +kernel
theorem d_M_conflicts_23 : decode b_M_conflicts 23 = .ok (.ifCond .le 22, 3) := by decide +kernel
theorem d_M_conflicts_26 : decode b_M_conflicts 26 = .ok (.iload_n 3, 1) := by decide +kernel
theorem d_M_conflicts_27 : decode b_M_conflicts 27 = .ok (.iconst 2, 1) := by decide +kernel
theorem d_M_conflicts_28 : decode b_M_conflicts 28 = .ok (.if_icmp .eq 13, 3) := by decide +kernel
theorem d_M_conflicts_31 : decode b_M_conflicts 31 = .ok (.aload_n 0, 1) := by decide +kernel
theorem d_M_conflicts_32 : decode b_M_conflicts 32 = .ok (.getfield 73, 3) := by decide +kernel
theorem d_M_conflicts_35 : decode b_M_conflicts 35 = .ok (.iload_n 1, 1) := by decide +kernel
theorem d_M_conflicts_36 : decode b_M_conflicts 36 = .ok (.iaload, 1) := by decide +kernel
theorem d_M_conflicts_37 : decode b_M_conflicts 37 = .ok (.iconst 2, 1) := by decide +kernel
theorem d_M_conflicts_38 : decode b_M_conflicts 38 = .ok (.if_icmp .ne 7, 3) := by decide +kernel
theorem d_M_conflicts_41 : decode b_M_conflicts 41 = .ok (.iconst 1, 1) := by decide +kernel
theorem d_M_conflicts_42 : decode b_M_conflicts 42 = .ok (.goto 4, 3) := by decide +kernel
theorem d_M_conflicts_45 : decode b_M_conflicts 45 = .ok (.iconst 0, 1) := by decide +kernel
theorem d_M_conflicts_46 : decode b_M_conflicts 46 = .ok (.ireturn, 1) := by decide +kernel
theorem d_M_ahead_0 : decode b_M_ahead 0 = .ok (.iload_n 2, 1) := by decide +kernel
theorem d_M_ahead_1 : decode b_M_ahead 1 = .ok (.iload_n 1, 1) := by decide +kernel
theorem d_M_ahead_2 : decode b_M_ahead 2 = .ok (.if_icmp .eq 47, 3) := by decide +kernel
theorem d_M_ahead_5 : decode b_M_ahead 5 = .ok (.aload_n 0, 1) := by decide +kernel
theorem d_M_ahead_6 : decode b_M_ahead 6 = .ok (.getfield 61, 3) := by decide +kernel
theorem d_M_ahead_9 : decode b_M_ahead 9 = .ok (.iload_n 2, 1) := by decide +kernel
theorem d_M_ahead_10 : decode b_M_ahead 10 = .ok (.iaload, 1) := by decide +kernel
theorem d_M_ahead_11 : decode b_M_ahead 11 = .ok (.iconst 2, 1) := by decide +kernel
theorem d_M_ahead_12 : decode b_M_ahead 12 = .ok (.if_icmp .ne 37, 3) := by decide +kernel
theorem d_M_ahead_15 : decode b_M_ahead 15 = .ok (.aload_n 0, 1) := by decide +kernel
theorem d_M_ahead_16 : decode b_M_ahead 16 = .ok (.getfield 70, 3) := by decide +kernel
theorem d_M_ahead_19 : decode b_M_ahead 19 = .ok (.iload_n 2, 1) := by decide +kernel
theorem d_M_ahead_20 : decode b_M_ahead 20 = .ok (.iaload, 1) := by decide +kernel
theorem d_M_ahead_21 : decode b_M_ahead 21 = .ok (.aload_n 0, 1) := by decide +kernel
theorem d_M_ahead_22 : decode b_M_ahead 22 = .ok (.getfield 70, 3) := by decide +kernel
theorem d_M_ahead_25 : decode b_M_ahead 25 = .ok (.iload_n 1, 1) := by decide +kernel
theorem d_M_ahead_26 : decode b_M_ahead 26 = .ok (.iaload, 1) := by decide +kernel
theorem d_M_ahead_27 : decode b_M_ahead 27 = .ok (.if_icmp .ne 22, 3) := by decide +kernel
theorem d_M_ahead_30 : decode b_M_ahead 30 = .ok (.aload_n 0, 1) := by decide +kernel
theorem d_M_ahead_31 : decode b_M_ahead 31 = .ok (.getfield 79, 3) := by decide +kernel
theorem d_M_ahead_34 : decode b_M_ahead 34 = .ok (.iload_n 2, 1) := by decide +kernel
theorem d_M_ahead_35 : decode b_M_ahead 35 = .ok (.iaload, 1) := by decide +kernel
theorem d_M_ahead_36 : decode b_M_ahead 36 = .ok (.aload_n 0, 1) := by decide +kernel
theorem d_M_ahead_37 : decode b_M_ahead 37 = .ok (.getfield 79, 3) := by decide +kernel
theorem d_M_ahead_40 : decode b_M_ahead 40 = .ok (.iload_n 1, 1) := by decide +kernel
theorem d_M_ahead_41 : decode b_M_ahead 41 = .ok (.iaload, 1) := by decide +kernel
theorem d_M_ahead_42 : decode b_M_ahead 42 = .ok (.if_icmp .ge 7, 3) := by decide +kernel
theorem d_M_ahead_45 : decode b_M_ahead 45 = .ok (.iconst 1, 1) := by decide +kernel
theorem d_M_ahead_46 : decode b_M_ahead 46 = .ok (.goto 4, 3) := by decide +kernel
theorem d_M_ahead_49 : decode b_M_ahead 49 = .ok (.iconst 0, 1) := by decide +kernel
theorem d_M_ahead_50 : decode b_M_ahead 50 = .ok (.ireturn, 1) := by decide +kernel
theorem d_M_waitsFor_0 : decode b_M_waitsFor 0 = .ok (.aload_n 0, 1) := by decide +kernel
theorem d_M_waitsFor_1 : decode b_M_waitsFor 1 = .ok (.getfield 61, 3) := by decide +kernel
theorem d_M_waitsFor_4 : decode b_M_waitsFor 4 = .ok (.iload_n 1, 1) := by decide +kernel
theorem d_M_waitsFor_5 : decode b_M_waitsFor 5 = .ok (.iaload, 1) := by decide +kernel
theorem d_M_waitsFor_6 : decode b_M_waitsFor 6 = .ok (.iconst 2, 1) := by decide +kernel
theorem d_M_waitsFor_7 : decode b_M_waitsFor 7 = .ok (.if_icmp .ne 44, 3) := by decide +kernel
theorem d_M_waitsFor_10 : decode b_M_waitsFor 10 = .ok (.aload_n 0, 1) := by decide +kernel
theorem d_M_waitsFor_11 : decode b_M_waitsFor 11 = .ok (.iload_n 1, 1) := by decide +kernel
theorem d_M_waitsFor_12 : decode b_M_waitsFor 12 = .ok (.iload_n 2, 1) := by decide +kernel
theorem d_M_waitsFor_13 : decode b_M_waitsFor 13 = .ok (.invokevirtual 131, 3) := by decide +kernel
theorem d_M_waitsFor_16 : decode b_M_waitsFor 16 = .ok (.ifCond .ne 31, 3) := by decide +kernel
theorem d_M_waitsFor_19 : decode b_M_waitsFor 19 = .ok (.aload_n 0, 1) := by decide +kernel
theorem d_M_waitsFor_20 : decode b_M_waitsFor 20 = .ok (.getfield 82, 3) := by decide +kernel
theorem d_M_waitsFor_23 : decode b_M_waitsFor 23 = .ok (.bipush 100, 2) := by decide +kernel
theorem d_M_waitsFor_25 : decode b_M_waitsFor 25 = .ok (.iload_n 1, 1) := by decide +kernel
theorem d_M_waitsFor_26 : decode b_M_waitsFor 26 = .ok (.imul, 1) := by decide +kernel
theorem d_M_waitsFor_27 : decode b_M_waitsFor 27 = .ok (.aload_n 0, 1) := by decide +kernel
theorem d_M_waitsFor_28 : decode b_M_waitsFor 28 = .ok (.getfield 70, 3) := by decide +kernel
theorem d_M_waitsFor_31 : decode b_M_waitsFor 31 = .ok (.iload_n 1, 1) := by decide +kernel
theorem d_M_waitsFor_32 : decode b_M_waitsFor 32 = .ok (.iaload, 1) := by decide +kernel
theorem d_M_waitsFor_33 : decode b_M_waitsFor 33 = .ok (.iadd, 1) := by decide +kernel
theorem d_M_waitsFor_34 : decode b_M_waitsFor 34 = .ok (.baload, 1) := by decide +kernel
theorem d_M_waitsFor_35 : decode b_M_waitsFor 35 = .ok (.ifCond .ne 16, 3) := by decide +kernel
theorem d_M_waitsFor_38 : decode b_M_waitsFor 38 = .ok (.aload_n 0, 1) := by decide +kernel
theorem d_M_waitsFor_39 : decode b_M_waitsFor 39 = .ok (.iload_n 1, 1) := by decide +kernel
theorem d_M_waitsFor_40 : decode b_M_waitsFor 40 = .ok (.iload_n 2, 1) := by decide +kernel
theorem d_M_waitsFor_41 : decode b_M_waitsFor 41 = .ok (.invokevirtual 135, 3) := by decide +kernel
theorem d_M_waitsFor_44 : decode b_M_waitsFor 44 = .ok (.ifCond .eq 7, 3) := by decide +kernel
theorem d_M_waitsFor_47 : decode b_M_waitsFor 47 = .ok (.iconst 1, 1) := by decide +kernel
theorem d_M_waitsFor_48 : decode b_M_waitsFor 48 = .ok (.goto 4, 3) := by decide +kernel
theorem d_M_waitsFor_51 : decode b_M_waitsFor 51 = .ok (.iconst 0, 1) := by decide +kernel
theorem d_M_waitsFor_52 : decode b_M_waitsFor 52 = .ok (.ireturn, 1) := by decide +kernel
theorem d_M_fit_0 : decode b_M_fit 0 = .ok (.aload_n 0, 1) := by decide +kernel
theorem d_M_fit_1 : decode b_M_fit 1 = .ok (.getfield 82, 3) := by decide +kernel
theorem d_M_fit_4 : decode b_M_fit 4 = .ok (.bipush 100, 2) := by decide +kernel
theorem d_M_fit_6 : decode b_M_fit 6 = .ok (.iload_n 1, 1) := by decide +kernel
theorem d_M_fit_7 : decode b_M_fit 7 = .ok (.imul, 1) := by decide +kernel
theorem d_M_fit_8 : decode b_M_fit 8 = .ok (.aload_n 0, 1) := by decide +kernel
theorem d_M_fit_9 : decode b_M_fit 9 = .ok (.getfield 70, 3) := by decide +kernel
theorem d_M_fit_12 : decode b_M_fit 12 = .ok (.iload_n 1, 1) := by decide +kernel
theorem d_M_fit_13 : decode b_M_fit 13 = .ok (.iaload, 1) := by decide +kernel
theorem d_M_fit_14 : decode b_M_fit 14 = .ok (.iadd, 1) := by decide +kernel
theorem d_M_fit_15 : decode b_M_fit 15 = .ok (.baload, 1) := by decide +kernel
theorem d_M_fit_16 : decode b_M_fit 16 = .ok (.istore_n 2, 1) := by decide +kernel
theorem d_M_fit_17 : decode b_M_fit 17 = .ok (.iload_n 2, 1) := by decide +kernel
theorem d_M_fit_18 : decode b_M_fit 18 = .ok (.aload_n 0, 1) := by decide +kernel
theorem d_M_fit_19 : decode b_M_fit 19 = .ok (.getfield 73, 3) := by decide +kernel
theorem d_M_fit_22 : decode b_M_fit 22 = .ok (.iload_n 1, 1) := by decide +kernel
theorem d_M_fit_23 : decode b_M_fit 23 = .ok (.iaload, 1) := by decide +kernel
theorem d_M_fit_24 : decode b_M_fit 24 = .ok (.if_icmp .lt 5, 3) := by decide +kernel
theorem d_M_fit_27 : decode b_M_fit 27 = .ok (.iconst 1, 1) := by decide +kernel
theorem d_M_fit_28 : decode b_M_fit 28 = .ok (.ireturn, 1) := by decide +kernel
theorem d_M_fit_29 : decode b_M_fit 29 = .ok (.iconst 1, 1) := by decide +kernel
theorem d_M_fit_30 : decode b_M_fit 30 = .ok (.istore_n 3, 1) := by decide +kernel
theorem d_M_fit_31 : decode b_M_fit 31 = .ok (.iload_n 3, 1) := by decide +kernel
theorem d_M_fit_32 : decode b_M_fit 32 = .ok (.aload_n 0, 1) := by decide +kernel
theorem d_M_fit_33 : decode b_M_fit 33 = .ok (.getfield 138, 3) := by decide +kernel
theorem d_M_fit_36 : decode b_M_fit 36 = .ok (.if_icmp .gt 33, 3) := by decide +kernel
theorem d_M_fit_39 : decode b_M_fit 39 = .ok (.aload_n 0, 1) := by decide +kernel
theorem d_M_fit_40 : decode b_M_fit 40 = .ok (.iload_n 1, 1) := by decide +kernel
theorem d_M_fit_41 : decode b_M_fit 41 = .ok (.iload_n 3, 1) := by decide +kernel
theorem d_M_fit_42 : decode b_M_fit 42 = .ok (.invokevirtual 131, 3) := by decide +kernel
theorem d_M_fit_45 : decode b_M_fit 45 = .ok (.ifCond .ne 16, 3) := by decide +kernel
theorem d_M_fit_48 : decode b_M_fit 48 = .ok (.iload_n 2, 1) := by decide +kernel
theorem d_M_fit_49 : decode b_M_fit 49 = .ok (.ifCond .ne 14, 3) := by decide +kernel
theorem d_M_fit_52 : decode b_M_fit 52 = .ok (.aload_n 0, 1) := by decide +kernel
theorem d_M_fit_53 : decode b_M_fit 53 = .ok (.iload_n 1, 1) := by decide +kernel
theorem d_M_fit_54 : decode b_M_fit 54 = .ok (.iload_n 3, 1) := by decide +kernel
theorem d_M_fit_55 : decode b_M_fit 55 = .ok (.invokevirtual 135, 3) := by decide +kernel
theorem d_M_fit_58 : decode b_M_fit 58 = .ok (.ifCond .eq 5, 3) := by decide +kernel
theorem d_M_fit_61 : decode b_M_fit 61 = .ok (.iconst 0, 1) := by decide +kernel
theorem d_M_fit_62 : decode b_M_fit 62 = .ok (.ireturn, 1) := by decide +kernel
theorem d_M_fit_63 : decode b_M_fit 63 = .ok (.iinc 3 1, 3) := by decide +kernel
theorem d_M_fit_66 : decode b_M_fit 66 = .ok (.goto (-35), 3) := by decide +kernel
theorem d_M_fit_69 : decode b_M_fit 69 = .ok (.iconst 1, 1) := by decide +kernel
theorem d_M_fit_70 : decode b_M_fit 70 = .ok (.ireturn, 1) := by decide +kernel
theorem d_M_ring_0 : decode b_M_ring 0 = .ok (.iconst 1, 1) := by decide +kernel
theorem d_M_ring_1 : decode b_M_ring 1 = .ok (.istore_n 2, 1) := by decide +kernel
theorem d_M_ring_2 : decode b_M_ring 2 = .ok (.iload_n 2, 1) := by decide +kernel
theorem d_M_ring_3 : decode b_M_ring 3 = .ok (.aload_n 0, 1) := by decide +kernel
theorem d_M_ring_4 : decode b_M_ring 4 = .ok (.getfield 138, 3) := by decide +kernel
theorem d_M_ring_7 : decode b_M_ring 7 = .ok (.if_icmp .gt 21, 3) := by decide +kernel
theorem d_M_ring_10 : decode b_M_ring 10 = .ok (.aload_n 0, 1) := by decide +kernel
theorem d_M_ring_11 : decode b_M_ring 11 = .ok (.getfield 86, 3) := by decide +kernel
theorem d_M_ring_14 : decode b_M_ring 14 = .ok (.iload_n 2, 1) := by decide +kernel
theorem d_M_ring_15 : decode b_M_ring 15 = .ok (.aload_n 0, 1) := by decide +kernel
theorem d_M_ring_16 : decode b_M_ring 16 = .ok (.iload_n 1, 1) := by decide +kernel
theorem d_M_ring_17 : decode b_M_ring 17 = .ok (.iload_n 2, 1) := by decide +kernel
theorem d_M_ring_18 : decode b_M_ring 18 = .ok (.invokevirtual 141, 3) := by decide +kernel
theorem d_M_ring_21 : decode b_M_ring 21 = .ok (.bastore, 1) := by decide +kernel
theorem d_M_ring_22 : decode b_M_ring 22 = .ok (.iinc 2 1, 3) := by decide +kernel
theorem d_M_ring_25 : decode b_M_ring 25 = .ok (.goto (-23), 3) := by decide +kernel
theorem d_M_ring_28 : decode b_M_ring 28 = .ok (.iconst 0, 1) := by decide +kernel
theorem d_M_ring_29 : decode b_M_ring 29 = .ok (.istore_n 2, 1) := by decide +kernel
theorem d_M_ring_30 : decode b_M_ring 30 = .ok (.iload_n 2, 1) := by decide +kernel
theorem d_M_ring_31 : decode b_M_ring 31 = .ok (.iconst 4, 1) := by decide +kernel
theorem d_M_ring_32 : decode b_M_ring 32 = .ok (.if_icmp .ge 84, 3) := by decide +kernel
theorem d_M_ring_35 : decode b_M_ring 35 = .ok (.iconst 1, 1) := by decide +kernel
theorem d_M_ring_36 : decode b_M_ring 36 = .ok (.istore_n 3, 1) := by decide +kernel
theorem d_M_ring_37 : decode b_M_ring 37 = .ok (.iload_n 3, 1) := by decide +kernel
theorem d_M_ring_38 : decode b_M_ring 38 = .ok (.aload_n 0, 1) := by decide +kernel
theorem d_M_ring_39 : decode b_M_ring 39 = .ok (.getfield 138, 3) := by decide +kernel
theorem d_M_ring_42 : decode b_M_ring 42 = .ok (.if_icmp .gt 68, 3) := by decide +kernel
theorem d_M_ring_45 : decode b_M_ring 45 = .ok (.iconst 1, 1) := by decide +kernel
theorem d_M_ring_46 : decode b_M_ring 46 = .ok (.istore 4, 2) := by decide +kernel
theorem d_M_ring_48 : decode b_M_ring 48 = .ok (.iload 4, 2) := by decide +kernel
theorem d_M_ring_50 : decode b_M_ring 50 = .ok (.aload_n 0, 1) := by decide +kernel
theorem d_M_ring_51 : decode b_M_ring 51 = .ok (.getfield 138, 3) := by decide +kernel
theorem d_M_ring_54 : decode b_M_ring 54 = .ok (.if_icmp .gt 50, 3) := by decide +kernel
theorem d_M_ring_57 : decode b_M_ring 57 = .ok (.aload_n 0, 1) := by decide +kernel
theorem d_M_ring_58 : decode b_M_ring 58 = .ok (.getfield 86, 3) := by decide +kernel
theorem d_M_ring_61 : decode b_M_ring 61 = .ok (.iload_n 3, 1) := by decide +kernel
theorem d_M_ring_62 : decode b_M_ring 62 = .ok (.baload, 1) := by decide +kernel
theorem d_M_ring_63 : decode b_M_ring 63 = .ok (.ifCond .eq 41, 3) := by decide +kernel
theorem d_M_ring_66 : decode b_M_ring 66 = .ok (.aload_n 0, 1) := by decide +kernel
theorem d_M_ring_67 : decode b_M_ring 67 = .ok (.getfield 86, 3) := by decide +kernel
theorem d_M_ring_70 : decode b_M_ring 70 = .ok (.iload 4, 2) := by decide +kernel
theorem d_M_ring_72 : decode b_M_ring 72 = .ok (.aload_n 0, 1) := by decide +kernel
theorem d_M_ring_73 : decode b_M_ring 73 = .ok (.getfield 86, 3) := by decide +kernel
theorem d_M_ring_76 : decode b_M_ring 76 = .ok (.iload 4, 2) := by decide +kernel
theorem d_M_ring_78 : decode b_M_ring 78 = .ok (.baload, 1) := by decide +kernel
theorem d_M_ring_79 : decode b_M_ring 79 = .ok (.ifCond .ne 13, 3) := by decide +kernel
theorem d_M_ring_82 : decode b_M_ring 82 = .ok (.aload_n 0, 1) := by decide +kernel
theorem d_M_ring_83 : decode b_M_ring 83 = .ok (.iload_n 3, 1) := by decide +kernel
theorem d_M_ring_84 : decode b_M_ring 84 = .ok (.iload 4, 2) := by decide +kernel
theorem d_M_ring_86 : decode b_M_ring 86 = .ok (.invokevirtual 141, 3) := by decide +kernel
theorem d_M_ring_89 : decode b_M_ring 89 = .ok (.ifCond .eq 7, 3) := by decide +kernel
theorem d_M_ring_92 : decode b_M_ring 92 = .ok (.iconst 1, 1) := by decide +kernel
theorem d_M_ring_93 : decode b_M_ring 93 = .ok (.goto 4, 3) := by decide +kernel
theorem d_M_ring_96 : decode b_M_ring 96 = .ok (.iconst 0, 1) := by decide +kernel
theorem d_M_ring_97 : decode b_M_ring 97 = .ok (.bastore, 1) := by decide +kernel
theorem d_M_ring_98 : decode b_M_ring 98 = .ok (.iinc 4 1, 3) := by decide +kernel
theorem d_M_ring_101 : decode b_M_ring 101 = .ok (.goto (-53), 3) := by decide +kernel
theorem d_M_ring_104 : decode b_M_ring 104 = .ok (.iinc 3 1, 3) := by decide +kernel
theorem d_M_ring_107 : decode b_M_ring 107 = .ok (.goto (-70), 3) := by decide +kernel
theorem d_M_ring_110 : decode b_M_ring 110 = .ok (.iinc 2 1, 3) := by decide +kernel
theorem d_M_ring_113 : decode b_M_ring 113 = .ok (.goto (-83), 3) := by decide +kernel
theorem d_M_ring_116 : decode b_M_ring 116 = .ok (.aload_n 0, 1) := by decide +kernel
theorem d_M_ring_117 : decode b_M_ring 117 = .ok (.getfield 86, 3) := by decide +kernel
theorem d_M_ring_120 : decode b_M_ring 120 = .ok (.iload_n 1, 1) := by decide +kernel
theorem d_M_ring_121 : decode b_M_ring 121 = .ok (.baload, 1) := by decide +kernel
theorem d_M_ring_122 : decode b_M_ring 122 = .ok (.ireturn, 1) := by decide +kernel

