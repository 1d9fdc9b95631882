theorem dX11_init_0 : decode cX11_init 0 = .ok (.aload_n 0, 1) := by decide +kernel
theorem dX11_init_1 : decode cX11_init 1 = .ok (.invokespecial 1, 3) := by decide +kernel
theorem dX11_init_4 : decode cX11_init 4 = .ok (.aload_n 0, 1) := by decide +kernel
theorem dX11_init_5 : decode cX11_init 5 = .ok (.bipush 60, 2) := by decide +kernel
theorem dX11_init_7 : decode cX11_init 7 = .ok (.newarray .int, 2) := by decide +kernel
theorem dX11_init_9 : decode cX11_init 9 = .ok (.putfield 7, 3) := by decide +kernel
theorem dX11_init_12 : decode cX11_init 12 = .ok (.aload_n 0, 1) := by decide +kernel
theorem dX11_init_13 : decode cX11_init 13 = .ok (.bipush 60, 2) := by decide +kernel
theorem dX11_init_15 : decode cX11_init 15 = .ok (.newarray .int, 2) := by decide +kernel
theorem dX11_init_17 : decode cX11_init 17 = .ok (.putfield 13, 3) := by decide +kernel
theorem dX11_init_20 : decode cX11_init 20 = .ok (.aload_n 0, 1) := by decide +kernel
theorem dX11_init_21 : decode cX11_init 21 = .ok (.sipush 720, 3) := by decide +kernel
theorem dX11_init_24 : decode cX11_init 24 = .ok (.newarray .int, 2) := by decide +kernel
theorem dX11_init_26 : decode cX11_init 26 = .ok (.putfield 16, 3) := by decide +kernel
theorem dX11_init_29 : decode cX11_init 29 = .ok (.aload_n 0, 1) := by decide +kernel
theorem dX11_init_30 : decode cX11_init 30 = .ok (.sipush 720, 3) := by decide +kernel
theorem dX11_init_33 : decode cX11_init 33 = .ok (.newarray .int, 2) := by decide +kernel
theorem dX11_init_35 : decode cX11_init 35 = .ok (.putfield 19, 3) := by decide +kernel
theorem dX11_init_38 : decode cX11_init 38 = .ok (.aload_n 0, 1) := by decide +kernel
theorem dX11_init_39 : decode cX11_init 39 = .ok (.sipush 720, 3) := by decide +kernel
theorem dX11_init_42 : decode cX11_init 42 = .ok (.newarray .long, 2) := by decide +kernel
theorem dX11_init_44 : decode cX11_init 44 = .ok (.putfield 22, 3) := by decide +kernel
theorem dX11_init_47 : decode cX11_init 47 = .ok (.aload_n 0, 1) := by decide +kernel
theorem dX11_init_48 : decode cX11_init 48 = .ok (.bipush 13, 2) := by decide +kernel
theorem dX11_init_50 : decode cX11_init 50 = .ok (.newarray .int, 2) := by decide +kernel
theorem dX11_init_52 : decode cX11_init 52 = .ok (.dup, 1) := by decide +kernel
theorem dX11_init_53 : decode cX11_init 53 = .ok (.iconst 0, 1) := by decide +kernel
theorem dX11_init_54 : decode cX11_init 54 = .ok (.iconst 1, 1) := by decide +kernel
theorem dX11_init_55 : decode cX11_init 55 = .ok (.iastore, 1) := by decide +kernel
theorem dX11_init_56 : decode cX11_init 56 = .ok (.dup, 1) := by decide +kernel
theorem dX11_init_57 : decode cX11_init 57 = .ok (.iconst 1, 1) := by decide +kernel
theorem dX11_init_58 : decode cX11_init 58 = .ok (.iconst 1, 1) := by decide +kernel
theorem dX11_init_59 : decode cX11_init 59 = .ok (.iastore, 1) := by decide +kernel
theorem dX11_init_60 : decode cX11_init 60 = .ok (.dup, 1) := by decide +kernel
theorem dX11_init_61 : decode cX11_init 61 = .ok (.iconst 2, 1) := by decide +kernel
theorem dX11_init_62 : decode cX11_init 62 = .ok (.iconst 4, 1) := by decide +kernel
theorem dX11_init_63 : decode cX11_init 63 = .ok (.iastore, 1) := by decide +kernel
theorem dX11_init_64 : decode cX11_init 64 = .ok (.dup, 1) := by decide +kernel
theorem dX11_init_65 : decode cX11_init 65 = .ok (.iconst 3, 1) := by decide +kernel
theorem dX11_init_66 : decode cX11_init 66 = .ok (.iconst 4, 1) := by decide +kernel
theorem dX11_init_67 : decode cX11_init 67 = .ok (.iastore, 1) := by decide +kernel
theorem dX11_init_68 : decode cX11_init 68 = .ok (.dup, 1) := by decide +kernel
theorem dX11_init_69 : decode cX11_init 69 = .ok (.iconst 4, 1) := by decide +kernel
theorem dX11_init_70 : decode cX11_init 70 = .ok (.iconst 3, 1) := by decide +kernel
theorem dX11_init_71 : decode cX11_init 71 = .ok (.iastore, 1) := by decide +kernel
theorem dX11_init_72 : decode cX11_init 72 = .ok (.dup, 1) := by decide +kernel
theorem dX11_init_73 : decode cX11_init 73 = .ok (.iconst 5, 1) := by decide +kernel
theorem dX11_init_74 : decode cX11_init 74 = .ok (.iconst 1, 1) := by decide +kernel
theorem dX11_init_75 : decode cX11_init 75 = .ok (.iastore, 1) := by decide +kernel
theorem dX11_init_76 : decode cX11_init 76 = .ok (.dup, 1) := by decide +kernel
theorem dX11_init_77 : decode cX11_init 77 = .ok (.bipush 6, 2) := by decide +kernel
theorem dX11_init_79 : decode cX11_init 79 = .ok (.iconst 1, 1) := by decide +kernel
theorem dX11_init_80 : decode cX11_init 80 = .ok (.iastore, 1) := by decide +kernel
theorem dX11_init_81 : decode cX11_init 81 = .ok (.dup, 1) := by decide +kernel
theorem dX11_init_82 : decode cX11_init 82 = .ok (.bipush 7, 2) := by decide +kernel
theorem dX11_init_84 : decode cX11_init 84 = .ok (.iconst 1, 1) := by decide +kernel
theorem dX11_init_85 : decode cX11_init 85 = .ok (.iastore, 1) := by decide +kernel
theorem dX11_init_86 : decode cX11_init 86 = .ok (.dup, 1) := by decide +kernel
theorem dX11_init_87 : decode cX11_init 87 = .ok (.bipush 8, 2) := by decide +kernel
theorem dX11_init_89 : decode cX11_init 89 = .ok (.iconst 1, 1) := by decide +kernel
theorem dX11_init_90 : decode cX11_init 90 = .ok (.iastore, 1) := by decide +kernel
theorem dX11_init_91 : decode cX11_init 91 = .ok (.dup, 1) := by decide +kernel
theorem dX11_init_92 : decode cX11_init 92 = .ok (.bipush 9, 2) := by decide +kernel
theorem dX11_init_94 : decode cX11_init 94 = .ok (.iconst 1, 1) := by decide +kernel
theorem dX11_init_95 : decode cX11_init 95 = .ok (.iastore, 1) := by decide +kernel
theorem dX11_init_96 : decode cX11_init 96 = .ok (.dup, 1) := by decide +kernel
theorem dX11_init_97 : decode cX11_init 97 = .ok (.bipush 10, 2) := by decide +kernel
theorem dX11_init_99 : decode cX11_init 99 = .ok (.iconst 1, 1) := by decide +kernel
theorem dX11_init_100 : decode cX11_init 100 = .ok (.iastore, 1) := by decide +kernel
theorem dX11_init_101 : decode cX11_init 101 = .ok (.dup, 1) := by decide +kernel
theorem dX11_init_102 : decode cX11_init 102 = .ok (.bipush 11, 2) := by decide +kernel
theorem dX11_init_104 : decode cX11_init 104 = .ok (.iconst 1, 1) := by decide +kernel
theorem dX11_init_105 : decode cX11_init 105 = .ok (.iastore, 1) := by decide +kernel
theorem dX11_init_106 : decode cX11_init 106 = .ok (.dup, 1) := by decide +kernel
theorem dX11_init_107 : decode cX11_init 107 = .ok (.bipush 12, 2) := by decide +kernel
theorem dX11_init_109 : decode cX11_init 109 = .ok (.iconst 1, 1) := by decide +kernel
theorem dX11_init_110 : decode cX11_init 110 = .ok (.iastore, 1) := by decide +kernel
theorem dX11_init_111 : decode cX11_init 111 = .ok (.putfield 26, 3) := by decide +kernel
theorem dX11_init_114 : decode cX11_init 114 = .ok (.aload_n 0, 1) := by decide +kernel
theorem dX11_init_115 : decode cX11_init 115 = .ok (.bipush 13, 2) := by decide +kernel
theorem dX11_init_117 : decode cX11_init 117 = .ok (.newarray .long, 2) := by decide +kernel
theorem dX11_init_119 : decode cX11_init 119 = .ok (.putfield 29, 3) := by decide +kernel
theorem dX11_init_122 : decode cX11_init 122 = .ok (.aload_n 0, 1) := by decide +kernel
theorem dX11_init_123 : decode cX11_init 123 = .ok (.bipush 50, 2) := by decide +kernel
theorem dX11_init_125 : decode cX11_init 125 = .ok (.newarray .int, 2) := by decide +kernel
theorem dX11_init_127 : decode cX11_init 127 = .ok (.putfield 32, 3) := by decide +kernel
theorem dX11_init_130 : decode cX11_init 130 = .ok (.aload_n 0, 1) := by decide +kernel
theorem dX11_init_131 : decode cX11_init 131 = .ok (.bipush 50, 2) := by decide +kernel
theorem dX11_init_133 : decode cX11_init 133 = .ok (.newarray .int, 2) := by decide +kernel
theorem dX11_init_135 : decode cX11_init 135 = .ok (.putfield 35, 3) := by decide +kernel
theorem dX11_init_138 : decode cX11_init 138 = .ok (.aload_n 0, 1) := by decide +kernel
theorem dX11_init_139 : decode cX11_init 139 = .ok (.bipush 50, 2) := by decide +kernel
theorem dX11_init_141 : decode cX11_init 141 = .ok (.newarray .int, 2) := by decide +kernel
theorem dX11_init_143 : decode cX11_init 143 = .ok (.putfield 38, 3) := by decide +kernel
theorem dX11_init_146 : decode cX11_init 146 = .ok (.aload_n 0, 1) := by decide +kernel
theorem dX11_init_147 : decode cX11_init 147 = .ok (.bipush 50, 2) := by decide +kernel
theorem dX11_init_149 : decode cX11_init 149 = .ok (.newarray .long, 2) := by decide +kernel
theorem dX11_init_151 : decode cX11_init 151 = .ok (.putfield 41, 3) := by decide +kernel
theorem dX11_init_154 : decode cX11_init 154 = .ok (.aload_n 0, 1) := by decide +kernel
theorem dX11_init_155 : decode cX11_init 155 = .ok (.bipush 58, 2) := by decide +kernel
theorem dX11_init_157 : decode cX11_init 157 = .ok (.newarray .int, 2) := by decide +kernel
theorem dX11_init_159 : decode cX11_init 159 = .ok (.putfield 44, 3) := by decide +kernel
theorem dX11_init_162 : decode cX11_init 162 = .ok (.aload_n 0, 1) := by decide +kernel
theorem dX11_init_163 : decode cX11_init 163 = .ok (.bipush 58, 2) := by decide +kernel
theorem dX11_init_165 : decode cX11_init 165 = .ok (.newarray .int, 2) := by decide +kernel
theorem dX11_init_167 : decode cX11_init 167 = .ok (.putfield 47, 3) := by decide +kernel
theorem dX11_init_170 : decode cX11_init 170 = .ok (.aload_n 0, 1) := by decide +kernel
theorem dX11_init_171 : decode cX11_init 171 = .ok (.sipush 5800, 3) := by decide +kernel
theorem dX11_init_174 : decode cX11_init 174 = .ok (.newarray .long, 2) := by decide +kernel
theorem dX11_init_176 : decode cX11_init 176 = .ok (.putfield 50, 3) := by decide +kernel
theorem dX11_init_179 : decode cX11_init 179 = .ok (.aload_n 0, 1) := by decide +kernel
theorem dX11_init_180 : decode cX11_init 180 = .ok (.bipush 8, 2) := by decide +kernel
theorem dX11_init_182 : decode cX11_init 182 = .ok (.newarray .long, 2) := by decide +kernel
theorem dX11_init_184 : decode cX11_init 184 = .ok (.putfield 53, 3) := by decide +kernel
theorem dX11_init_187 : decode cX11_init 187 = .ok (.aload_n 0, 1) := by decide +kernel
theorem dX11_init_188 : decode cX11_init 188 = .ok (.iconst 4, 1) := by decide +kernel
theorem dX11_init_189 : decode cX11_init 189 = .ok (.newarray .long, 2) := by decide +kernel
theorem dX11_init_191 : decode cX11_init 191 = .ok (.putfield 56, 3) := by decide +kernel
theorem dX11_init_194 : decode cX11_init 194 = .ok (.aload_n 0, 1) := by decide +kernel
theorem dX11_init_195 : decode cX11_init 195 = .ok (.sipush 1024, 3) := by decide +kernel
theorem dX11_init_198 : decode cX11_init 198 = .ok (.newarray .int, 2) := by decide +kernel
theorem dX11_init_200 : decode cX11_init 200 = .ok (.putfield 59, 3) := by decide +kernel
theorem dX11_init_203 : decode cX11_init 203 = .ok (.aload_n 0, 1) := by decide +kernel
theorem dX11_init_204 : decode cX11_init 204 = .ok (.sipush 256, 3) := by decide +kernel
theorem dX11_init_207 : decode cX11_init 207 = .ok (.newarray .int, 2) := by decide +kernel
theorem dX11_init_209 : decode cX11_init 209 = .ok (.putfield 62, 3) := by decide +kernel
theorem dX11_init_212 : decode cX11_init 212 = .ok (.aload_n 0, 1) := by decide +kernel
theorem dX11_init_213 : decode cX11_init 213 = .ok (.sipush 256, 3) := by decide +kernel
theorem dX11_init_216 : decode cX11_init 216 = .ok (.newarray .boolean, 2) := by decide +kernel
theorem dX11_init_218 : decode cX11_init 218 = .ok (.putfield 65, 3) := by decide +kernel
theorem dX11_init_221 : decode cX11_init 221 = .ok (.aload_n 0, 1) := by decide +kernel
theorem dX11_init_222 : decode cX11_init 222 = .ok (.iconst 3, 1) := by decide +kernel
theorem dX11_init_223 : decode cX11_init 223 = .ok (.newarray .int, 2) := by decide +kernel
theorem dX11_init_225 : decode cX11_init 225 = .ok (.putfield 69, 3) := by decide +kernel
theorem dX11_init_228 : decode cX11_init 228 = .ok (.aload_n 0, 1) := by decide +kernel
theorem dX11_init_229 : decode cX11_init 229 = .ok (.iconst 3, 1) := by decide +kernel
theorem dX11_init_230 : decode cX11_init 230 = .ok (.newarray .int, 2) := by decide +kernel
theorem dX11_init_232 : decode cX11_init 232 = .ok (.putfield 72, 3) := by decide +kernel
theorem dX11_init_235 : decode cX11_init 235 = .ok (.aload_n 0, 1) := by decide +kernel
theorem dX11_init_236 : decode cX11_init 236 = .ok (.iconst 3, 1) := by decide +kernel
theorem dX11_init_237 : decode cX11_init 237 = .ok (.newarray .int, 2) := by decide +kernel
theorem dX11_init_239 : decode cX11_init 239 = .ok (.putfield 75, 3) := by decide +kernel
theorem dX11_init_242 : decode cX11_init 242 = .ok (.aload_n 0, 1) := by decide +kernel
theorem dX11_init_243 : decode cX11_init 243 = .ok (.iconst 3, 1) := by decide +kernel
theorem dX11_init_244 : decode cX11_init 244 = .ok (.newarray .int, 2) := by decide +kernel
theorem dX11_init_246 : decode cX11_init 246 = .ok (.putfield 78, 3) := by decide +kernel
theorem dX11_init_249 : decode cX11_init 249 = .ok (.aload_n 0, 1) := by decide +kernel
theorem dX11_init_250 : decode cX11_init 250 = .ok (.iconst 3, 1) := by decide +kernel
theorem dX11_init_251 : decode cX11_init 251 = .ok (.newarray .int, 2) := by decide +kernel
theorem dX11_init_253 : decode cX11_init 253 = .ok (.putfield 81, 3) := by decide +kernel
theorem dX11_init_256 : decode cX11_init 256 = .ok (.aload_n 0, 1) := by decide +kernel
theorem dX11_init_257 : decode cX11_init 257 = .ok (.iconst 3, 1) := by decide +kernel
theorem dX11_init_258 : decode cX11_init 258 = .ok (.newarray .long, 2) := by decide +kernel
theorem dX11_init_260 : decode cX11_init 260 = .ok (.putfield 84, 3) := by decide +kernel
theorem dX11_init_263 : decode cX11_init 263 = .ok (.return_, 1) := by decide +kernel
theorem dX11_isWidth_0 : decode cX11_isWidth 0 = .ok (.iload_n 0, 1) := by decide +kernel
theorem dX11_isWidth_1 : decode cX11_isWidth 1 = .ok (.bipush 8, 2) := by decide +kernel
theorem dX11_isWidth_3 : decode cX11_isWidth 3 = .ok (.if_icmp .eq 21, 3) := by decide +kernel
theorem dX11_isWidth_6 : decode cX11_isWidth 6 = .ok (.iload_n 0, 1) := by decide +kernel
theorem dX11_isWidth_7 : decode cX11_isWidth 7 = .ok (.bipush 16, 2) := by decide +kernel
theorem dX11_isWidth_9 : decode cX11_isWidth 9 = .ok (.if_icmp .eq 15, 3) := by decide +kernel
theorem dX11_isWidth_12 : decode cX11_isWidth 12 = .ok (.iload_n 0, 1) := by decide +kernel
theorem dX11_isWidth_13 : decode cX11_isWidth 13 = .ok (.bipush 32, 2) := by decide +kernel
theorem dX11_isWidth_15 : decode cX11_isWidth 15 = .ok (.if_icmp .eq 9, 3) := by decide +kernel
theorem dX11_isWidth_18 : decode cX11_isWidth 18 = .ok (.iload_n 0, 1) := by decide +kernel
theorem dX11_isWidth_19 : decode cX11_isWidth 19 = .ok (.bipush 64, 2) := by decide +kernel
theorem dX11_isWidth_21 : decode cX11_isWidth 21 = .ok (.if_icmp .ne 7, 3) := by decide +kernel
theorem dX11_isWidth_24 : decode cX11_isWidth 24 = .ok (.iconst 1, 1) := by decide +kernel
theorem dX11_isWidth_25 : decode cX11_isWidth 25 = .ok (.goto 4, 3) := by decide +kernel
theorem dX11_isWidth_28 : decode cX11_isWidth 28 = .ok (.iconst 0, 1) := by decide +kernel
theorem dX11_isWidth_29 : decode cX11_isWidth 29 = .ok (.ireturn, 1) := by decide +kernel
theorem dX11_low_0 : decode cX11_low 0 = .ok (.iload_n 2, 1) := by decide +kernel
theorem dX11_low_1 : decode cX11_low 1 = .ok (.bipush 64, 2) := by decide +kernel
theorem dX11_low_3 : decode cX11_low 3 = .ok (.if_icmp .ne 7, 3) := by decide +kernel
theorem dX11_low_6 : decode cX11_low 6 = .ok (.lload_n 0, 1) := by decide +kernel
theorem dX11_low_7 : decode cX11_low 7 = .ok (.goto 10, 3) := by decide +kernel
theorem dX11_low_10 : decode cX11_low 10 = .ok (.lload_n 0, 1) := by decide +kernel
theorem dX11_low_11 : decode cX11_low 11 = .ok (.lconst 1, 1) := by decide +kernel
theorem dX11_low_12 : decode cX11_low 12 = .ok (.iload_n 2, 1) := by decide +kernel
theorem dX11_low_13 : decode cX11_low 13 = .ok (.lshl, 1) := by decide +kernel
theorem dX11_low_14 : decode cX11_low 14 = .ok (.lconst 1, 1) := by decide +kernel
theorem dX11_low_15 : decode cX11_low 15 = .ok (.lsub, 1) := by decide +kernel
theorem dX11_low_16 : decode cX11_low 16 = .ok (.land, 1) := by decide +kernel
theorem dX11_low_17 : decode cX11_low 17 = .ok (.lreturn, 1) := by decide +kernel
theorem dX11_isUp_0 : decode cX11_isUp 0 = .ok (.lload_n 0, 1) := by decide +kernel
theorem dX11_isUp_1 : decode cX11_isUp 1 = .ok (.iload_n 2, 1) := by decide +kernel
theorem dX11_isUp_2 : decode cX11_isUp 2 = .ok (.iconst 1, 1) := by decide +kernel
theorem dX11_isUp_3 : decode cX11_isUp 3 = .ok (.isub, 1) := by decide +kernel
theorem dX11_isUp_4 : decode cX11_isUp 4 = .ok (.lushr, 1) := by decide +kernel
theorem dX11_isUp_5 : decode cX11_isUp 5 = .ok (.lconst 1, 1) := by decide +kernel
theorem dX11_isUp_6 : decode cX11_isUp 6 = .ok (.land, 1) := by decide +kernel
theorem dX11_isUp_7 : decode cX11_isUp 7 = .ok (.lconst 1, 1) := by decide +kernel
theorem dX11_isUp_8 : decode cX11_isUp 8 = .ok (.lcmp, 1) := by decide +kernel
theorem dX11_isUp_9 : decode cX11_isUp 9 = .ok (.ifCond .ne 7, 3) := by decide +kernel
theorem dX11_isUp_12 : decode cX11_isUp 12 = .ok (.iconst 1, 1) := by decide +kernel
theorem dX11_isUp_13 : decode cX11_isUp 13 = .ok (.goto 4, 3) := by decide +kernel
theorem dX11_isUp_16 : decode cX11_isUp 16 = .ok (.iconst 0, 1) := by decide +kernel
theorem dX11_isUp_17 : decode cX11_isUp 17 = .ok (.ireturn, 1) := by decide +kernel
theorem dX11_signed_0 : decode cX11_signed 0 = .ok (.iload_n 2, 1) := by decide +kernel
theorem dX11_signed_1 : decode cX11_signed 1 = .ok (.bipush 64, 2) := by decide +kernel
theorem dX11_signed_3 : decode cX11_signed 3 = .ok (.if_icmp .ne 7, 3) := by decide +kernel
theorem dX11_signed_6 : decode cX11_signed 6 = .ok (.lload_n 0, 1) := by decide +kernel
theorem dX11_signed_7 : decode cX11_signed 7 = .ok (.goto 14, 3) := by decide +kernel
theorem dX11_signed_10 : decode cX11_signed 10 = .ok (.lload_n 0, 1) := by decide +kernel
theorem dX11_signed_11 : decode cX11_signed 11 = .ok (.bipush 64, 2) := by decide +kernel
theorem dX11_signed_13 : decode cX11_signed 13 = .ok (.iload_n 2, 1) := by decide +kernel
theorem dX11_signed_14 : decode cX11_signed 14 = .ok (.isub, 1) := by decide +kernel
theorem dX11_signed_15 : decode cX11_signed 15 = .ok (.lshl, 1) := by decide +kernel
theorem dX11_signed_16 : decode cX11_signed 16 = .ok (.bipush 64, 2) := by decide +kernel
theorem dX11_signed_18 : decode cX11_signed 18 = .ok (.iload_n 2, 1) := by decide +kernel
theorem dX11_signed_19 : decode cX11_signed 19 = .ok (.isub, 1) := by decide +kernel
theorem dX11_signed_20 : decode cX11_signed 20 = .ok (.lshr, 1) := by decide +kernel
theorem dX11_signed_21 : decode cX11_signed 21 = .ok (.lreturn, 1) := by decide +kernel
theorem dX11_isUnder_0 : decode cX11_isUnder 0 = .ok (.lload_n 0, 1) := by decide +kernel
theorem dX11_isUnder_1 : decode cX11_isUnder 1 = .ok (.ldc2_w 93, 3) := by decide +kernel
theorem dX11_isUnder_4 : decode cX11_isUnder 4 = .ok (.lxor, 1) := by decide +kernel
theorem dX11_isUnder_5 : decode cX11_isUnder 5 = .ok (.lload_n 2, 1) := by decide +kernel
theorem dX11_isUnder_6 : decode cX11_isUnder 6 = .ok (.ldc2_w 93, 3) := by decide +kernel
theorem dX11_isUnder_9 : decode cX11_isUnder 9 = .ok (.lxor, 1) := by decide +kernel
theorem dX11_isUnder_10 : decode cX11_isUnder 10 = .ok (.lcmp, 1) := by decide +kernel
theorem dX11_isUnder_11 : decode cX11_isUnder 11 = .ok (.ifCond .ge 7, 3) := by decide +kernel
theorem dX11_isUnder_14 : decode cX11_isUnder 14 = .ok (.iconst 1, 1) := by decide +kernel
theorem dX11_isUnder_15 : decode cX11_isUnder 15 = .ok (.goto 4, 3) := by decide +kernel
theorem dX11_isUnder_18 : decode cX11_isUnder 18 = .ok (.iconst 0, 1) := by decide +kernel
theorem dX11_isUnder_19 : decode cX11_isUnder 19 = .ok (.ireturn, 1) := by decide +kernel
theorem dX11_upper_0 : decode cX11_upper 0 = .ok (.lload_n 0, 1) := by decide +kernel
theorem dX11_upper_1 : decode cX11_upper 1 = .ok (.ldc2_w 95, 3) := by decide +kernel
theorem dX11_upper_4 : decode cX11_upper 4 = .ok (.land, 1) := by decide +kernel
theorem dX11_upper_5 : decode cX11_upper 5 = .ok (.lstore 4, 2) := by decide +kernel
theorem dX11_upper_7 : decode cX11_upper 7 = .ok (.lload_n 0, 1) := by decide +kernel
theorem dX11_upper_8 : decode cX11_upper 8 = .ok (.bipush 32, 2) := by decide +kernel
theorem dX11_upper_10 : decode cX11_upper 10 = .ok (.lushr, 1) := by decide +kernel
theorem dX11_upper_11 : decode cX11_upper 11 = .ok (.lstore 6, 2) := by decide +kernel
theorem dX11_upper_13 : decode cX11_upper 13 = .ok (.lload_n 2, 1) := by decide +kernel
theorem dX11_upper_14 : decode cX11_upper 14 = .ok (.ldc2_w 95, 3) := by decide +kernel
theorem dX11_upper_17 : decode cX11_upper 17 = .ok (.land, 1) := by decide +kernel
theorem dX11_upper_18 : decode cX11_upper 18 = .ok (.lstore 8, 2) := by decide +kernel
theorem dX11_upper_20 : decode cX11_upper 20 = .ok (.lload_n 2, 1) := by decide +kernel
theorem dX11_upper_21 : decode cX11_upper 21 = .ok (.bipush 32, 2) := by decide +kernel
theorem dX11_upper_23 : decode cX11_upper 23 = .ok (.lushr, 1) := by decide +kernel
theorem dX11_upper_24 : decode cX11_upper 24 = .ok (.lstore 10, 2) := by decide +kernel
theorem dX11_upper_26 : decode cX11_upper 26 = .ok (.lload 6, 2) := by decide +kernel
theorem dX11_upper_28 : decode cX11_upper 28 = .ok (.lload 8, 2) := by decide +kernel
theorem dX11_upper_30 : decode cX11_upper 30 = .ok (.lmul, 1) := by decide +kernel
theorem dX11_upper_31 : decode cX11_upper 31 = .ok (.lload 4, 2) := by decide +kernel
theorem dX11_upper_33 : decode cX11_upper 33 = .ok (.lload 8, 2) := by decide +kernel
theorem dX11_upper_35 : decode cX11_upper 35 = .ok (.lmul, 1) := by decide +kernel
theorem dX11_upper_36 : decode cX11_upper 36 = .ok (.bipush 32, 2) := by decide +kernel
theorem dX11_upper_38 : decode cX11_upper 38 = .ok (.lushr, 1) := by decide +kernel
theorem dX11_upper_39 : decode cX11_upper 39 = .ok (.ladd, 1) := by decide +kernel
theorem dX11_upper_40 : decode cX11_upper 40 = .ok (.lstore 12, 2) := by decide +kernel
theorem dX11_upper_42 : decode cX11_upper 42 = .ok (.lload 4, 2) := by decide +kernel
theorem dX11_upper_44 : decode cX11_upper 44 = .ok (.lload 10, 2) := by decide +kernel
theorem dX11_upper_46 : decode cX11_upper 46 = .ok (.lmul, 1) := by decide +kernel
theorem dX11_upper_47 : decode cX11_upper 47 = .ok (.lload 12, 2) := by decide +kernel
theorem dX11_upper_49 : decode cX11_upper 49 = .ok (.ldc2_w 95, 3) := by decide +kernel
theorem dX11_upper_52 : decode cX11_upper 52 = .ok (.land, 1) := by decide +kernel
theorem dX11_upper_53 : decode cX11_upper 53 = .ok (.ladd, 1) := by decide +kernel
theorem dX11_upper_54 : decode cX11_upper 54 = .ok (.lstore 14, 2) := by decide +kernel
theorem dX11_upper_56 : decode cX11_upper 56 = .ok (.lload 6, 2) := by decide +kernel
theorem dX11_upper_58 : decode cX11_upper 58 = .ok (.lload 10, 2) := by decide +kernel
theorem dX11_upper_60 : decode cX11_upper 60 = .ok (.lmul, 1) := by decide +kernel
theorem dX11_upper_61 : decode cX11_upper 61 = .ok (.lload 12, 2) := by decide +kernel
theorem dX11_upper_63 : decode cX11_upper 63 = .ok (.bipush 32, 2) := by decide +kernel
theorem dX11_upper_65 : decode cX11_upper 65 = .ok (.lushr, 1) := by decide +kernel
theorem dX11_upper_66 : decode cX11_upper 66 = .ok (.ladd, 1) := by decide +kernel
theorem dX11_upper_67 : decode cX11_upper 67 = .ok (.lload 14, 2) := by decide +kernel
theorem dX11_upper_69 : decode cX11_upper 69 = .ok (.bipush 32, 2) := by decide +kernel
theorem dX11_upper_71 : decode cX11_upper 71 = .ok (.lushr, 1) := by decide +kernel
theorem dX11_upper_72 : decode cX11_upper 72 = .ok (.ladd, 1) := by decide +kernel
theorem dX11_upper_73 : decode cX11_upper 73 = .ok (.lreturn, 1) := by decide +kernel
theorem dX11_upperPlain_0 : decode cX11_upperPlain 0 = .ok (.iload 4, 2) := by decide +kernel
theorem dX11_upperPlain_2 : decode cX11_upperPlain 2 = .ok (.bipush 64, 2) := by decide +kernel
theorem dX11_upperPlain_4 : decode cX11_upperPlain 4 = .ok (.if_icmp .ne 11, 3) := by decide +kernel
theorem dX11_upperPlain_7 : decode cX11_upperPlain 7 = .ok (.lload_n 0, 1) := by decide +kernel
theorem dX11_upperPlain_8 : decode cX11_upperPlain 8 = .ok (.lload_n 2, 1) := by decide +kernel
theorem dX11_upperPlain_9 : decode cX11_upperPlain 9 = .ok (.invokestatic 97, 3) := by decide +kernel
theorem dX11_upperPlain_12 : decode cX11_upperPlain 12 = .ok (.goto 9, 3) := by decide +kernel
theorem dX11_upperPlain_15 : decode cX11_upperPlain 15 = .ok (.lload_n 0, 1) := by decide +kernel
theorem dX11_upperPlain_16 : decode cX11_upperPlain 16 = .ok (.lload_n 2, 1) := by decide +kernel
theorem dX11_upperPlain_17 : decode cX11_upperPlain 17 = .ok (.lmul, 1) := by decide +kernel
theorem dX11_upperPlain_18 : decode cX11_upperPlain 18 = .ok (.iload 4, 2) := by decide +kernel
theorem dX11_upperPlain_20 : decode cX11_upperPlain 20 = .ok (.lushr, 1) := by decide +kernel
theorem dX11_upperPlain_21 : decode cX11_upperPlain 21 = .ok (.lreturn, 1) := by decide +kernel
theorem dX11_upperSigned_0 : decode cX11_upperSigned 0 = .ok (.iload 4, 2) := by decide +kernel
theorem dX11_upperSigned_2 : decode cX11_upperSigned 2 = .ok (.bipush 64, 2) := by decide +kernel
theorem dX11_upperSigned_4 : decode cX11_upperSigned 4 = .ok (.if_icmp .ge 25, 3) := by decide +kernel
theorem dX11_upperSigned_7 : decode cX11_upperSigned 7 = .ok (.lload_n 0, 1) := by decide +kernel
theorem dX11_upperSigned_8 : decode cX11_upperSigned 8 = .ok (.iload 4, 2) := by decide +kernel
theorem dX11_upperSigned_10 : decode cX11_upperSigned 10 = .ok (.invokestatic 101, 3) := by decide +kernel
theorem dX11_upperSigned_13 : decode cX11_upperSigned 13 = .ok (.lload_n 2, 1) := by decide +kernel
theorem dX11_upperSigned_14 : decode cX11_upperSigned 14 = .ok (.iload 4, 2) := by decide +kernel
theorem dX11_upperSigned_16 : decode cX11_upperSigned 16 = .ok (.invokestatic 101, 3) := by decide +kernel
theorem dX11_upperSigned_19 : decode cX11_upperSigned 19 = .ok (.lmul, 1) := by decide +kernel
theorem dX11_upperSigned_20 : decode cX11_upperSigned 20 = .ok (.iload 4, 2) := by decide +kernel
theorem dX11_upperSigned_22 : decode cX11_upperSigned 22 = .ok (.lshr, 1) := by decide +kernel
theorem dX11_upperSigned_23 : decode cX11_upperSigned 23 = .ok (.iload 4, 2) := by decide +kernel
theorem dX11_upperSigned_25 : decode cX11_upperSigned 25 = .ok (.invokestatic 105, 3) := by decide +kernel
theorem dX11_upperSigned_28 : decode cX11_upperSigned 28 = .ok (.lreturn, 1) := by decide +kernel
theorem dX11_upperSigned_29 : decode cX11_upperSigned 29 = .ok (.lload_n 0, 1) := by decide +kernel
theorem dX11_upperSigned_30 : decode cX11_upperSigned 30 = .ok (.lload_n 2, 1) := by decide +kernel
theorem dX11_upperSigned_31 : decode cX11_upperSigned 31 = .ok (.invokestatic 97, 3) := by decide +kernel
theorem dX11_upperSigned_34 : decode cX11_upperSigned 34 = .ok (.lload_n 0, 1) := by decide +kernel
theorem dX11_upperSigned_35 : decode cX11_upperSigned 35 = .ok (.lconst 0, 1) := by decide +kernel
theorem dX11_upperSigned_36 : decode cX11_upperSigned 36 = .ok (.lcmp, 1) := by decide +kernel
theorem dX11_upperSigned_37 : decode cX11_upperSigned 37 = .ok (.ifCond .ge 7, 3) := by decide +kernel
theorem dX11_upperSigned_40 : decode cX11_upperSigned 40 = .ok (.lload_n 2, 1) := by decide +kernel
theorem dX11_upperSigned_41 : decode cX11_upperSigned 41 = .ok (.goto 4, 3) := by decide +kernel
theorem dX11_upperSigned_44 : decode cX11_upperSigned 44 = .ok (.lconst 0, 1) := by decide +kernel
theorem dX11_upperSigned_45 : decode cX11_upperSigned 45 = .ok (.lsub, 1) := by decide +kernel
theorem dX11_upperSigned_46 : decode cX11_upperSigned 46 = .ok (.lload_n 2, 1) := by decide +kernel
theorem dX11_upperSigned_47 : decode cX11_upperSigned 47 = .ok (.lconst 0, 1) := by decide +kernel
theorem dX11_upperSigned_48 : decode cX11_upperSigned 48 = .ok (.lcmp, 1) := by decide +kernel
theorem dX11_upperSigned_49 : decode cX11_upperSigned 49 = .ok (.ifCond .ge 7, 3) := by decide +kernel
theorem dX11_upperSigned_52 : decode cX11_upperSigned 52 = .ok (.lload_n 0, 1) := by decide +kernel
theorem dX11_upperSigned_53 : decode cX11_upperSigned 53 = .ok (.goto 4, 3) := by decide +kernel
theorem dX11_upperSigned_56 : decode cX11_upperSigned 56 = .ok (.lconst 0, 1) := by decide +kernel
theorem dX11_upperSigned_57 : decode cX11_upperSigned 57 = .ok (.lsub, 1) := by decide +kernel
theorem dX11_upperSigned_58 : decode cX11_upperSigned 58 = .ok (.lreturn, 1) := by decide +kernel
theorem dX11_quotient_0 : decode cX11_quotient 0 = .ok (.lconst 0, 1) := by decide +kernel
theorem dX11_quotient_1 : decode cX11_quotient 1 = .ok (.lstore 5, 2) := by decide +kernel
theorem dX11_quotient_3 : decode cX11_quotient 3 = .ok (.lconst 0, 1) := by decide +kernel
theorem dX11_quotient_4 : decode cX11_quotient 4 = .ok (.lstore 7, 2) := by decide +kernel
theorem dX11_quotient_6 : decode cX11_quotient 6 = .ok (.bipush 63, 2) := by decide +kernel
theorem dX11_quotient_8 : decode cX11_quotient 8 = .ok (.istore 9, 2) := by decide +kernel
theorem dX11_quotient_10 : decode cX11_quotient 10 = .ok (.iload 9, 2) := by decide +kernel
theorem dX11_quotient_12 : decode cX11_quotient 12 = .ok (.ifCond .lt 68, 3) := by decide +kernel
theorem dX11_quotient_15 : decode cX11_quotient 15 = .ok (.lload 7, 2) := by decide +kernel
theorem dX11_quotient_17 : decode cX11_quotient 17 = .ok (.lconst 0, 1) := by decide +kernel
theorem dX11_quotient_18 : decode cX11_quotient 18 = .ok (.lcmp, 1) := by decide +kernel
theorem dX11_quotient_19 : decode cX11_quotient 19 = .ok (.ifCond .ge 7, 3) := by decide +kernel
theorem dX11_quotient_22 : decode cX11_quotient 22 = .ok (.iconst 1, 1) := by decide +kernel
theorem dX11_quotient_23 : decode cX11_quotient 23 = .ok (.goto 4, 3) := by decide +kernel
theorem dX11_quotient_26 : decode cX11_quotient 26 = .ok (.iconst 0, 1) := by decide +kernel
theorem dX11_quotient_27 : decode cX11_quotient 27 = .ok (.istore 10, 2) := by decide +kernel
theorem dX11_quotient_29 : decode cX11_quotient 29 = .ok (.lload 7, 2) := by decide +kernel
theorem dX11_quotient_31 : decode cX11_quotient 31 = .ok (.iconst 1, 1) := by decide +kernel
theorem dX11_quotient_32 : decode cX11_quotient 32 = .ok (.lshl, 1) := by decide +kernel
theorem dX11_quotient_33 : decode cX11_quotient 33 = .ok (.lload_n 1, 1) := by decide +kernel
theorem dX11_quotient_34 : decode cX11_quotient 34 = .ok (.iload 9, 2) := by decide +kernel
theorem dX11_quotient_36 : decode cX11_quotient 36 = .ok (.lushr, 1) := by decide +kernel
theorem dX11_quotient_37 : decode cX11_quotient 37 = .ok (.lconst 1, 1) := by decide +kernel
theorem dX11_quotient_38 : decode cX11_quotient 38 = .ok (.land, 1) := by decide +kernel
theorem dX11_quotient_39 : decode cX11_quotient 39 = .ok (.lor, 1) := by decide +kernel
theorem dX11_quotient_40 : decode cX11_quotient 40 = .ok (.lstore 7, 2) := by decide +kernel
theorem dX11_quotient_42 : decode cX11_quotient 42 = .ok (.lload 5, 2) := by decide +kernel
theorem dX11_quotient_44 : decode cX11_quotient 44 = .ok (.iconst 1, 1) := by decide +kernel
theorem dX11_quotient_45 : decode cX11_quotient 45 = .ok (.lshl, 1) := by decide +kernel
theorem dX11_quotient_46 : decode cX11_quotient 46 = .ok (.lstore 5, 2) := by decide +kernel
theorem dX11_quotient_48 : decode cX11_quotient 48 = .ok (.iload 10, 2) := by decide +kernel
theorem dX11_quotient_50 : decode cX11_quotient 50 = .ok (.ifCond .ne 12, 3) := by decide +kernel
theorem dX11_quotient_53 : decode cX11_quotient 53 = .ok (.lload 7, 2) := by decide +kernel
theorem dX11_quotient_55 : decode cX11_quotient 55 = .ok (.lload_n 3, 1) := by decide +kernel
theorem dX11_quotient_56 : decode cX11_quotient 56 = .ok (.invokestatic 108, 3) := by decide +kernel
theorem dX11_quotient_59 : decode cX11_quotient 59 = .ok (.ifCond .ne 15, 3) := by decide +kernel
theorem dX11_quotient_62 : decode cX11_quotient 62 = .ok (.lload 7, 2) := by decide +kernel
theorem dX11_quotient_64 : decode cX11_quotient 64 = .ok (.lload_n 3, 1) := by decide +kernel
theorem dX11_quotient_65 : decode cX11_quotient 65 = .ok (.lsub, 1) := by decide +kernel
theorem dX11_quotient_66 : decode cX11_quotient 66 = .ok (.lstore 7, 2) := by decide +kernel
theorem dX11_quotient_68 : decode cX11_quotient 68 = .ok (.lload 5, 2) := by decide +kernel
theorem dX11_quotient_70 : decode cX11_quotient 70 = .ok (.lconst 1, 1) := by decide +kernel
theorem dX11_quotient_71 : decode cX11_quotient 71 = .ok (.lor, 1) := by decide +kernel
theorem dX11_quotient_72 : decode cX11_quotient 72 = .ok (.lstore 5, 2) := by decide +kernel
theorem dX11_quotient_74 : decode cX11_quotient 74 = .ok (.iinc 9 (-1), 3) := by decide +kernel
theorem dX11_quotient_77 : decode cX11_quotient 77 = .ok (.goto (-67), 3) := by decide +kernel
theorem dX11_quotient_80 : decode cX11_quotient 80 = .ok (.aload_n 0, 1) := by decide +kernel
theorem dX11_quotient_81 : decode cX11_quotient 81 = .ok (.lload 7, 2) := by decide +kernel
theorem dX11_quotient_83 : decode cX11_quotient 83 = .ok (.putfield 112, 3) := by decide +kernel
theorem dX11_quotient_86 : decode cX11_quotient 86 = .ok (.lload 5, 2) := by decide +kernel
theorem dX11_quotient_88 : decode cX11_quotient 88 = .ok (.lreturn, 1) := by decide +kernel
theorem dX11_inverseOf_0 : decode cX11_inverseOf 0 = .ok (.lload_n 0, 1) := by decide +kernel
theorem dX11_inverseOf_1 : decode cX11_inverseOf 1 = .ok (.lstore_n 2, 1) := by decide +kernel
theorem dX11_inverseOf_2 : decode cX11_inverseOf 2 = .ok (.iconst 0, 1) := by decide +kernel
theorem dX11_inverseOf_3 : decode cX11_inverseOf 3 = .ok (.istore 4, 2) := by decide +kernel
theorem dX11_inverseOf_5 : decode cX11_inverseOf 5 = .ok (.iload 4, 2) := by decide +kernel
theorem dX11_inverseOf_7 : decode cX11_inverseOf 7 = .ok (.bipush 6, 2) := by decide +kernel
theorem dX11_inverseOf_9 : decode cX11_inverseOf 9 = .ok (.if_icmp .ge 19, 3) := by decide +kernel
theorem dX11_inverseOf_12 : decode cX11_inverseOf 12 = .ok (.lload_n 2, 1) := by decide +kernel
theorem dX11_inverseOf_13 : decode cX11_inverseOf 13 = .ok (.ldc2_w 116, 3) := by decide +kernel
theorem dX11_inverseOf_16 : decode cX11_inverseOf 16 = .ok (.lload_n 0, 1) := by decide +kernel
theorem dX11_inverseOf_17 : decode cX11_inverseOf 17 = .ok (.lload_n 2, 1) := by decide +kernel
theorem dX11_inverseOf_18 : decode cX11_inverseOf 18 = .ok (.lmul, 1) := by decide +kernel
theorem dX11_inverseOf_19 : decode cX11_inverseOf 19 = .ok (.lsub, 1) := by decide +kernel
theorem dX11_inverseOf_20 : decode cX11_inverseOf 20 = .ok (.lmul, 1) := by decide +kernel
theorem dX11_inverseOf_21 : decode cX11_inverseOf 21 = .ok (.lstore_n 2, 1) := by decide +kernel
theorem dX11_inverseOf_22 : decode cX11_inverseOf 22 = .ok (.iinc 4 1, 3) := by decide +kernel
theorem dX11_inverseOf_25 : decode cX11_inverseOf 25 = .ok (.goto (-20), 3) := by decide +kernel
theorem dX11_inverseOf_28 : decode cX11_inverseOf 28 = .ok (.lload_n 2, 1) := by decide +kernel
theorem dX11_inverseOf_29 : decode cX11_inverseOf 29 = .ok (.lreturn, 1) := by decide +kernel
theorem dX11_isForm_0 : decode cX11_isForm 0 = .ok (.iload_n 1, 1) := by decide +kernel
theorem dX11_isForm_1 : decode cX11_isForm 1 = .ok (.ifCond .lt 15, 3) := by decide +kernel
theorem dX11_isForm_4 : decode cX11_isForm 4 = .ok (.iload_n 1, 1) := by decide +kernel
theorem dX11_isForm_5 : decode cX11_isForm 5 = .ok (.aload_n 0, 1) := by decide +kernel
theorem dX11_isForm_6 : decode cX11_isForm 6 = .ok (.getfield 118, 3) := by decide +kernel
theorem dX11_isForm_9 : decode cX11_isForm 9 = .ok (.if_icmp .ge 7, 3) := by decide +kernel
theorem dX11_isForm_12 : decode cX11_isForm 12 = .ok (.iconst 1, 1) := by decide +kernel
theorem dX11_isForm_13 : decode cX11_isForm 13 = .ok (.goto 4, 3) := by decide +kernel
theorem dX11_isForm_16 : decode cX11_isForm 16 = .ok (.iconst 0, 1) := by decide +kernel
theorem dX11_isForm_17 : decode cX11_isForm 17 = .ok (.ireturn, 1) := by decide +kernel
theorem dX11_takesOperand_0 : decode cX11_takesOperand 0 = .ok (.iload_n 0, 1) := by decide +kernel
theorem dX11_takesOperand_1 : decode cX11_takesOperand 1 = .ok (.iconst 5, 1) := by decide +kernel
theorem dX11_takesOperand_2 : decode cX11_takesOperand 2 = .ok (.if_icmp .eq 21, 3) := by decide +kernel
theorem dX11_takesOperand_5 : decode cX11_takesOperand 5 = .ok (.iload_n 0, 1) := by decide +kernel
theorem dX11_takesOperand_6 : decode cX11_takesOperand 6 = .ok (.bipush 6, 2) := by decide +kernel
theorem dX11_takesOperand_8 : decode cX11_takesOperand 8 = .ok (.if_icmp .eq 15, 3) := by decide +kernel
theorem dX11_takesOperand_11 : decode cX11_takesOperand 11 = .ok (.iload_n 0, 1) := by decide +kernel
theorem dX11_takesOperand_12 : decode cX11_takesOperand 12 = .ok (.bipush 8, 2) := by decide +kernel
theorem dX11_takesOperand_14 : decode cX11_takesOperand 14 = .ok (.if_icmp .eq 9, 3) := by decide +kernel
theorem dX11_takesOperand_17 : decode cX11_takesOperand 17 = .ok (.iload_n 0, 1) := by decide +kernel
theorem dX11_takesOperand_18 : decode cX11_takesOperand 18 = .ok (.bipush 12, 2) := by decide +kernel
theorem dX11_takesOperand_20 : decode cX11_takesOperand 20 = .ok (.if_icmp .ne 7, 3) := by decide +kernel
theorem dX11_takesOperand_23 : decode cX11_takesOperand 23 = .ok (.iconst 1, 1) := by decide +kernel
theorem dX11_takesOperand_24 : decode cX11_takesOperand 24 = .ok (.goto 4, 3) := by decide +kernel
theorem dX11_takesOperand_27 : decode cX11_takesOperand 27 = .ok (.iconst 0, 1) := by decide +kernel
theorem dX11_takesOperand_28 : decode cX11_takesOperand 28 = .ok (.ireturn, 1) := by decide +kernel
theorem dX11_takesCount_0 : decode cX11_takesCount 0 = .ok (.iload_n 0, 1) := by decide +kernel
theorem dX11_takesCount_1 : decode cX11_takesCount 1 = .ok (.ifCond .eq 14, 3) := by decide +kernel
theorem dX11_takesCount_4 : decode cX11_takesCount 4 = .ok (.iload_n 0, 1) := by decide +kernel
theorem dX11_takesCount_5 : decode cX11_takesCount 5 = .ok (.iconst 1, 1) := by decide +kernel
theorem dX11_takesCount_6 : decode cX11_takesCount 6 = .ok (.if_icmp .eq 9, 3) := by decide +kernel
theorem dX11_takesCount_9 : decode cX11_takesCount 9 = .ok (.iload_n 0, 1) := by decide +kernel
theorem dX11_takesCount_10 : decode cX11_takesCount 10 = .ok (.bipush 10, 2) := by decide +kernel
theorem dX11_takesCount_12 : decode cX11_takesCount 12 = .ok (.if_icmp .ne 7, 3) := by decide +kernel
theorem dX11_takesCount_15 : decode cX11_takesCount 15 = .ok (.iconst 1, 1) := by decide +kernel
theorem dX11_takesCount_16 : decode cX11_takesCount 16 = .ok (.goto 4, 3) := by decide +kernel
theorem dX11_takesCount_19 : decode cX11_takesCount 19 = .ok (.iconst 0, 1) := by decide +kernel
theorem dX11_takesCount_20 : decode cX11_takesCount 20 = .ok (.ireturn, 1) := by decide +kernel
theorem dX11_worked_0 : decode cX11_worked 0 = .ok (.iload_n 0, 1) := by decide +kernel
theorem dX11_worked_1 : decode cX11_worked 1 = .ok (.tableswitch 185 0 11 #[63, 68, 83, 91, 99, 108, 117, 126, 135, 139, 143, 171], 63) := by decide +kernel
theorem dX11_worked_64 : decode cX11_worked 64 = .ok (.lload_n 1, 1) := by decide +kernel
theorem dX11_worked_65 : decode cX11_worked 65 = .ok (.lload_n 3, 1) := by decide +kernel
theorem dX11_worked_66 : decode cX11_worked 66 = .ok (.l2i, 1) := by decide +kernel
theorem dX11_worked_67 : decode cX11_worked 67 = .ok (.lushr, 1) := by decide +kernel
theorem dX11_worked_68 : decode cX11_worked 68 = .ok (.lreturn, 1) := by decide +kernel
theorem dX11_worked_69 : decode cX11_worked 69 = .ok (.lload_n 1, 1) := by decide +kernel
theorem dX11_worked_70 : decode cX11_worked 70 = .ok (.iload 5, 2) := by decide +kernel
theorem dX11_worked_72 : decode cX11_worked 72 = .ok (.invokestatic 101, 3) := by decide +kernel
theorem dX11_worked_75 : decode cX11_worked 75 = .ok (.lload_n 3, 1) := by decide +kernel
theorem dX11_worked_76 : decode cX11_worked 76 = .ok (.l2i, 1) := by decide +kernel
theorem dX11_worked_77 : decode cX11_worked 77 = .ok (.lshr, 1) := by decide +kernel
theorem dX11_worked_78 : decode cX11_worked 78 = .ok (.iload 5, 2) := by decide +kernel
theorem dX11_worked_80 : decode cX11_worked 80 = .ok (.invokestatic 105, 3) := by decide +kernel
theorem dX11_worked_83 : decode cX11_worked 83 = .ok (.lreturn, 1) := by decide +kernel
theorem dX11_worked_84 : decode cX11_worked 84 = .ok (.lload_n 1, 1) := by decide +kernel
theorem dX11_worked_85 : decode cX11_worked 85 = .ok (.lload_n 3, 1) := by decide +kernel
theorem dX11_worked_86 : decode cX11_worked 86 = .ok (.iload 5, 2) := by decide +kernel
theorem dX11_worked_88 : decode cX11_worked 88 = .ok (.invokestatic 121, 3) := by decide +kernel
theorem dX11_worked_91 : decode cX11_worked 91 = .ok (.lreturn, 1) := by decide +kernel
theorem dX11_worked_92 : decode cX11_worked 92 = .ok (.lload_n 1, 1) := by decide +kernel
theorem dX11_worked_93 : decode cX11_worked 93 = .ok (.lload_n 3, 1) := by decide +kernel
theorem dX11_worked_94 : decode cX11_worked 94 = .ok (.iload 5, 2) := by decide +kernel
theorem dX11_worked_96 : decode cX11_worked 96 = .ok (.invokestatic 125, 3) := by decide +kernel
theorem dX11_worked_99 : decode cX11_worked 99 = .ok (.lreturn, 1) := by decide +kernel
theorem dX11_worked_100 : decode cX11_worked 100 = .ok (.lload_n 1, 1) := by decide +kernel
theorem dX11_worked_101 : decode cX11_worked 101 = .ok (.lload_n 3, 1) := by decide +kernel
theorem dX11_worked_102 : decode cX11_worked 102 = .ok (.lmul, 1) := by decide +kernel
theorem dX11_worked_103 : decode cX11_worked 103 = .ok (.iload 5, 2) := by decide +kernel
theorem dX11_worked_105 : decode cX11_worked 105 = .ok (.invokestatic 105, 3) := by decide +kernel
theorem dX11_worked_108 : decode cX11_worked 108 = .ok (.lreturn, 1) := by decide +kernel
theorem dX11_worked_109 : decode cX11_worked 109 = .ok (.lload_n 1, 1) := by decide +kernel
theorem dX11_worked_110 : decode cX11_worked 110 = .ok (.lload_n 3, 1) := by decide +kernel
theorem dX11_worked_111 : decode cX11_worked 111 = .ok (.ladd, 1) := by decide +kernel
theorem dX11_worked_112 : decode cX11_worked 112 = .ok (.iload 5, 2) := by decide +kernel
theorem dX11_worked_114 : decode cX11_worked 114 = .ok (.invokestatic 105, 3) := by decide +kernel
theorem dX11_worked_117 : decode cX11_worked 117 = .ok (.lreturn, 1) := by decide +kernel
theorem dX11_worked_118 : decode cX11_worked 118 = .ok (.lload_n 1, 1) := by decide +kernel
theorem dX11_worked_119 : decode cX11_worked 119 = .ok (.lload_n 3, 1) := by decide +kernel
theorem dX11_worked_120 : decode cX11_worked 120 = .ok (.lsub, 1) := by decide +kernel
theorem dX11_worked_121 : decode cX11_worked 121 = .ok (.iload 5, 2) := by decide +kernel
theorem dX11_worked_123 : decode cX11_worked 123 = .ok (.invokestatic 105, 3) := by decide +kernel
theorem dX11_worked_126 : decode cX11_worked 126 = .ok (.lreturn, 1) := by decide +kernel
theorem dX11_worked_127 : decode cX11_worked 127 = .ok (.lload_n 3, 1) := by decide +kernel
theorem dX11_worked_128 : decode cX11_worked 128 = .ok (.lload_n 1, 1) := by decide +kernel
theorem dX11_worked_129 : decode cX11_worked 129 = .ok (.lsub, 1) := by decide +kernel
theorem dX11_worked_130 : decode cX11_worked 130 = .ok (.iload 5, 2) := by decide +kernel
theorem dX11_worked_132 : decode cX11_worked 132 = .ok (.invokestatic 105, 3) := by decide +kernel
theorem dX11_worked_135 : decode cX11_worked 135 = .ok (.lreturn, 1) := by decide +kernel
theorem dX11_worked_136 : decode cX11_worked 136 = .ok (.lload_n 1, 1) := by decide +kernel
theorem dX11_worked_137 : decode cX11_worked 137 = .ok (.lload_n 3, 1) := by decide +kernel
theorem dX11_worked_138 : decode cX11_worked 138 = .ok (.lxor, 1) := by decide +kernel
theorem dX11_worked_139 : decode cX11_worked 139 = .ok (.lreturn, 1) := by decide +kernel
theorem dX11_worked_140 : decode cX11_worked 140 = .ok (.lload_n 1, 1) := by decide +kernel
theorem dX11_worked_141 : decode cX11_worked 141 = .ok (.lload_n 3, 1) := by decide +kernel
theorem dX11_worked_142 : decode cX11_worked 142 = .ok (.land, 1) := by decide +kernel
theorem dX11_worked_143 : decode cX11_worked 143 = .ok (.lreturn, 1) := by decide +kernel
theorem dX11_worked_144 : decode cX11_worked 144 = .ok (.lload_n 3, 1) := by decide +kernel
theorem dX11_worked_145 : decode cX11_worked 145 = .ok (.lconst 0, 1) := by decide +kernel
theorem dX11_worked_146 : decode cX11_worked 146 = .ok (.lcmp, 1) := by decide +kernel
theorem dX11_worked_147 : decode cX11_worked 147 = .ok (.ifCond .ne 7, 3) := by decide +kernel
theorem dX11_worked_150 : decode cX11_worked 150 = .ok (.lload_n 1, 1) := by decide +kernel
theorem dX11_worked_151 : decode cX11_worked 151 = .ok (.goto 20, 3) := by decide +kernel
theorem dX11_worked_154 : decode cX11_worked 154 = .ok (.lload_n 1, 1) := by decide +kernel
theorem dX11_worked_155 : decode cX11_worked 155 = .ok (.lload_n 3, 1) := by decide +kernel
theorem dX11_worked_156 : decode cX11_worked 156 = .ok (.l2i, 1) := by decide +kernel
theorem dX11_worked_157 : decode cX11_worked 157 = .ok (.lushr, 1) := by decide +kernel
theorem dX11_worked_158 : decode cX11_worked 158 = .ok (.lload_n 1, 1) := by decide +kernel
theorem dX11_worked_159 : decode cX11_worked 159 = .ok (.iload 5, 2) := by decide +kernel
theorem dX11_worked_161 : decode cX11_worked 161 = .ok (.lload_n 3, 1) := by decide +kernel
theorem dX11_worked_162 : decode cX11_worked 162 = .ok (.l2i, 1) := by decide +kernel
theorem dX11_worked_163 : decode cX11_worked 163 = .ok (.isub, 1) := by decide +kernel
theorem dX11_worked_164 : decode cX11_worked 164 = .ok (.lshl, 1) := by decide +kernel
theorem dX11_worked_165 : decode cX11_worked 165 = .ok (.lor, 1) := by decide +kernel
theorem dX11_worked_166 : decode cX11_worked 166 = .ok (.iload 5, 2) := by decide +kernel
theorem dX11_worked_168 : decode cX11_worked 168 = .ok (.invokestatic 105, 3) := by decide +kernel
theorem dX11_worked_171 : decode cX11_worked 171 = .ok (.lreturn, 1) := by decide +kernel
theorem dX11_worked_172 : decode cX11_worked 172 = .ok (.lload_n 3, 1) := by decide +kernel
theorem dX11_worked_173 : decode cX11_worked 173 = .ok (.lload_n 1, 1) := by decide +kernel
theorem dX11_worked_174 : decode cX11_worked 174 = .ok (.invokestatic 108, 3) := by decide +kernel
theorem dX11_worked_177 : decode cX11_worked 177 = .ok (.ifCond .eq 7, 3) := by decide +kernel
theorem dX11_worked_180 : decode cX11_worked 180 = .ok (.lconst 0, 1) := by decide +kernel
theorem dX11_worked_181 : decode cX11_worked 181 = .ok (.goto 4, 3) := by decide +kernel
theorem dX11_worked_184 : decode cX11_worked 184 = .ok (.lconst 1, 1) := by decide +kernel
theorem dX11_worked_185 : decode cX11_worked 185 = .ok (.lreturn, 1) := by decide +kernel
theorem dX11_worked_186 : decode cX11_worked 186 = .ok (.lload_n 1, 1) := by decide +kernel
theorem dX11_worked_187 : decode cX11_worked 187 = .ok (.iload 5, 2) := by decide +kernel
theorem dX11_worked_189 : decode cX11_worked 189 = .ok (.invokestatic 128, 3) := by decide +kernel
theorem dX11_worked_192 : decode cX11_worked 192 = .ok (.ifCond .eq 7, 3) := by decide +kernel
theorem dX11_worked_195 : decode cX11_worked 195 = .ok (.lload_n 3, 1) := by decide +kernel
theorem dX11_worked_196 : decode cX11_worked 196 = .ok (.goto 4, 3) := by decide +kernel
theorem dX11_worked_199 : decode cX11_worked 199 = .ok (.lconst 0, 1) := by decide +kernel
theorem dX11_worked_200 : decode cX11_worked 200 = .ok (.lreturn, 1) := by decide +kernel
theorem dX11_work_0 : decode cX11_work 0 = .ok (.aload_n 0, 1) := by decide +kernel
theorem dX11_work_1 : decode cX11_work 1 = .ok (.getfield 7, 3) := by decide +kernel
theorem dX11_work_4 : decode cX11_work 4 = .ok (.iload_n 1, 1) := by decide +kernel
theorem dX11_work_5 : decode cX11_work 5 = .ok (.iaload, 1) := by decide +kernel
theorem dX11_work_6 : decode cX11_work 6 = .ok (.istore 5, 2) := by decide +kernel
theorem dX11_work_8 : decode cX11_work 8 = .ok (.aload_n 0, 1) := by decide +kernel
theorem dX11_work_9 : decode cX11_work 9 = .ok (.getfield 29, 3) := by decide +kernel
theorem dX11_work_12 : decode cX11_work 12 = .ok (.iconst 0, 1) := by decide +kernel
theorem dX11_work_13 : decode cX11_work 13 = .ok (.lload_n 2, 1) := by decide +kernel
theorem dX11_work_14 : decode cX11_work 14 = .ok (.iload 5, 2) := by decide +kernel
theorem dX11_work_16 : decode cX11_work 16 = .ok (.invokestatic 105, 3) := by decide +kernel
theorem dX11_work_19 : decode cX11_work 19 = .ok (.lastore, 1) := by decide +kernel
theorem dX11_work_20 : decode cX11_work 20 = .ok (.iconst 0, 1) := by decide +kernel
theorem dX11_work_21 : decode cX11_work 21 = .ok (.istore 6, 2) := by decide +kernel
theorem dX11_work_23 : decode cX11_work 23 = .ok (.iload 6, 2) := by decide +kernel
theorem dX11_work_25 : decode cX11_work 25 = .ok (.iload 4, 2) := by decide +kernel
theorem dX11_work_27 : decode cX11_work 27 = .ok (.if_icmp .ge 91, 3) := by decide +kernel
theorem dX11_work_30 : decode cX11_work 30 = .ok (.bipush 12, 2) := by decide +kernel
theorem dX11_work_32 : decode cX11_work 32 = .ok (.iload_n 1, 1) := by decide +kernel
theorem dX11_work_33 : decode cX11_work 33 = .ok (.imul, 1) := by decide +kernel
theorem dX11_work_34 : decode cX11_work 34 = .ok (.iload 6, 2) := by decide +kernel
theorem dX11_work_36 : decode cX11_work 36 = .ok (.iadd, 1) := by decide +kernel
theorem dX11_work_37 : decode cX11_work 37 = .ok (.istore 7, 2) := by decide +kernel
theorem dX11_work_39 : decode cX11_work 39 = .ok (.aload_n 0, 1) := by decide +kernel
theorem dX11_work_40 : decode cX11_work 40 = .ok (.getfield 16, 3) := by decide +kernel
theorem dX11_work_43 : decode cX11_work 43 = .ok (.iload 7, 2) := by decide +kernel
theorem dX11_work_45 : decode cX11_work 45 = .ok (.iaload, 1) := by decide +kernel
theorem dX11_work_46 : decode cX11_work 46 = .ok (.invokestatic 132, 3) := by decide +kernel
theorem dX11_work_49 : decode cX11_work 49 = .ok (.ifCond .eq 19, 3) := by decide +kernel
theorem dX11_work_52 : decode cX11_work 52 = .ok (.aload_n 0, 1) := by decide +kernel
theorem dX11_work_53 : decode cX11_work 53 = .ok (.getfield 29, 3) := by decide +kernel
theorem dX11_work_56 : decode cX11_work 56 = .ok (.aload_n 0, 1) := by decide +kernel
theorem dX11_work_57 : decode cX11_work 57 = .ok (.getfield 22, 3) := by decide +kernel
theorem dX11_work_60 : decode cX11_work 60 = .ok (.iload 7, 2) := by decide +kernel
theorem dX11_work_62 : decode cX11_work 62 = .ok (.laload, 1) := by decide +kernel
theorem dX11_work_63 : decode cX11_work 63 = .ok (.l2i, 1) := by decide +kernel
theorem dX11_work_64 : decode cX11_work 64 = .ok (.laload, 1) := by decide +kernel
theorem dX11_work_65 : decode cX11_work 65 = .ok (.goto 10, 3) := by decide +kernel
theorem dX11_work_68 : decode cX11_work 68 = .ok (.aload_n 0, 1) := by decide +kernel
theorem dX11_work_69 : decode cX11_work 69 = .ok (.getfield 22, 3) := by decide +kernel
theorem dX11_work_72 : decode cX11_work 72 = .ok (.iload 7, 2) := by decide +kernel
theorem dX11_work_74 : decode cX11_work 74 = .ok (.laload, 1) := by decide +kernel
theorem dX11_work_75 : decode cX11_work 75 = .ok (.lstore 8, 2) := by decide +kernel
theorem dX11_work_77 : decode cX11_work 77 = .ok (.aload_n 0, 1) := by decide +kernel
theorem dX11_work_78 : decode cX11_work 78 = .ok (.getfield 29, 3) := by decide +kernel
theorem dX11_work_81 : decode cX11_work 81 = .ok (.iload 6, 2) := by decide +kernel
theorem dX11_work_83 : decode cX11_work 83 = .ok (.iconst 1, 1) := by decide +kernel
theorem dX11_work_84 : decode cX11_work 84 = .ok (.iadd, 1) := by decide +kernel
theorem dX11_work_85 : decode cX11_work 85 = .ok (.aload_n 0, 1) := by decide +kernel
theorem dX11_work_86 : decode cX11_work 86 = .ok (.getfield 16, 3) := by decide +kernel
theorem dX11_work_89 : decode cX11_work 89 = .ok (.iload 7, 2) := by decide +kernel
theorem dX11_work_91 : decode cX11_work 91 = .ok (.iaload, 1) := by decide +kernel
theorem dX11_work_92 : decode cX11_work 92 = .ok (.aload_n 0, 1) := by decide +kernel
theorem dX11_work_93 : decode cX11_work 93 = .ok (.getfield 29, 3) := by decide +kernel
theorem dX11_work_96 : decode cX11_work 96 = .ok (.aload_n 0, 1) := by decide +kernel
theorem dX11_work_97 : decode cX11_work 97 = .ok (.getfield 19, 3) := by decide +kernel
theorem dX11_work_100 : decode cX11_work 100 = .ok (.iload 7, 2) := by decide +kernel
theorem dX11_work_102 : decode cX11_work 102 = .ok (.iaload, 1) := by decide +kernel
theorem dX11_work_103 : decode cX11_work 103 = .ok (.laload, 1) := by decide +kernel
theorem dX11_work_104 : decode cX11_work 104 = .ok (.lload 8, 2) := by decide +kernel
theorem dX11_work_106 : decode cX11_work 106 = .ok (.iload 5, 2) := by decide +kernel
theorem dX11_work_108 : decode cX11_work 108 = .ok (.invokestatic 136, 3) := by decide +kernel
theorem dX11_work_111 : decode cX11_work 111 = .ok (.lastore, 1) := by decide +kernel
theorem dX11_work_112 : decode cX11_work 112 = .ok (.iinc 6 1, 3) := by decide +kernel
theorem dX11_work_115 : decode cX11_work 115 = .ok (.goto (-92), 3) := by decide +kernel
theorem dX11_work_118 : decode cX11_work 118 = .ok (.return_, 1) := by decide +kernel
theorem dX11_add_0 : decode cX11_add 0 = .ok (.aload_n 0, 1) := by decide +kernel
theorem dX11_add_1 : decode cX11_add 1 = .ok (.getfield 7, 3) := by decide +kernel
theorem dX11_add_4 : decode cX11_add 4 = .ok (.aload_n 0, 1) := by decide +kernel
theorem dX11_add_5 : decode cX11_add 5 = .ok (.getfield 118, 3) := by decide +kernel
theorem dX11_add_8 : decode cX11_add 8 = .ok (.iload_n 1, 1) := by decide +kernel
theorem dX11_add_9 : decode cX11_add 9 = .ok (.iastore, 1) := by decide +kernel
theorem dX11_add_10 : decode cX11_add 10 = .ok (.aload_n 0, 1) := by decide +kernel
theorem dX11_add_11 : decode cX11_add 11 = .ok (.getfield 13, 3) := by decide +kernel
theorem dX11_add_14 : decode cX11_add 14 = .ok (.aload_n 0, 1) := by decide +kernel
theorem dX11_add_15 : decode cX11_add 15 = .ok (.getfield 118, 3) := by decide +kernel
theorem dX11_add_18 : decode cX11_add 18 = .ok (.iconst 0, 1) := by decide +kernel
theorem dX11_add_19 : decode cX11_add 19 = .ok (.iastore, 1) := by decide +kernel
theorem dX11_add_20 : decode cX11_add 20 = .ok (.aload_n 0, 1) := by decide +kernel
theorem dX11_add_21 : decode cX11_add 21 = .ok (.dup, 1) := by decide +kernel
theorem dX11_add_22 : decode cX11_add 22 = .ok (.getfield 118, 3) := by decide +kernel
theorem dX11_add_25 : decode cX11_add 25 = .ok (.iconst 1, 1) := by decide +kernel
theorem dX11_add_26 : decode cX11_add 26 = .ok (.iadd, 1) := by decide +kernel
theorem dX11_add_27 : decode cX11_add 27 = .ok (.putfield 118, 3) := by decide +kernel
theorem dX11_add_30 : decode cX11_add 30 = .ok (.aload_n 0, 1) := by decide +kernel
theorem dX11_add_31 : decode cX11_add 31 = .ok (.getfield 118, 3) := by decide +kernel
theorem dX11_add_34 : decode cX11_add 34 = .ok (.iconst 1, 1) := by decide +kernel
theorem dX11_add_35 : decode cX11_add 35 = .ok (.isub, 1) := by decide +kernel
theorem dX11_add_36 : decode cX11_add 36 = .ok (.ireturn, 1) := by decide +kernel
theorem dX11_put_0 : decode cX11_put 0 = .ok (.bipush 12, 2) := by decide +kernel
theorem dX11_put_2 : decode cX11_put 2 = .ok (.iload_n 1, 1) := by decide +kernel
theorem dX11_put_3 : decode cX11_put 3 = .ok (.imul, 1) := by decide +kernel
theorem dX11_put_4 : decode cX11_put 4 = .ok (.aload_n 0, 1) := by decide +kernel
theorem dX11_put_5 : decode cX11_put 5 = .ok (.getfield 13, 3) := by decide +kernel
theorem dX11_put_8 : decode cX11_put 8 = .ok (.iload_n 1, 1) := by decide +kernel
theorem dX11_put_9 : decode cX11_put 9 = .ok (.iaload, 1) := by decide +kernel
theorem dX11_put_10 : decode cX11_put 10 = .ok (.iadd, 1) := by decide +kernel
theorem dX11_put_11 : decode cX11_put 11 = .ok (.istore 6, 2) := by decide +kernel
theorem dX11_put_13 : decode cX11_put 13 = .ok (.aload_n 0, 1) := by decide +kernel
theorem dX11_put_14 : decode cX11_put 14 = .ok (.getfield 16, 3) := by decide +kernel
theorem dX11_put_17 : decode cX11_put 17 = .ok (.iload 6, 2) := by decide +kernel
theorem dX11_put_19 : decode cX11_put 19 = .ok (.iload_n 2, 1) := by decide +kernel
theorem dX11_put_20 : decode cX11_put 20 = .ok (.iastore, 1) := by decide +kernel
theorem dX11_put_21 : decode cX11_put 21 = .ok (.aload_n 0, 1) := by decide +kernel
theorem dX11_put_22 : decode cX11_put 22 = .ok (.getfield 19, 3) := by decide +kernel
theorem dX11_put_25 : decode cX11_put 25 = .ok (.iload 6, 2) := by decide +kernel
theorem dX11_put_27 : decode cX11_put 27 = .ok (.iload_n 3, 1) := by decide +kernel
theorem dX11_put_28 : decode cX11_put 28 = .ok (.iastore, 1) := by decide +kernel
theorem dX11_put_29 : decode cX11_put 29 = .ok (.aload_n 0, 1) := by decide +kernel
theorem dX11_put_30 : decode cX11_put 30 = .ok (.getfield 22, 3) := by decide +kernel
theorem dX11_put_33 : decode cX11_put 33 = .ok (.iload 6, 2) := by decide +kernel
theorem dX11_put_35 : decode cX11_put 35 = .ok (.iload_n 2, 1) := by decide +kernel
theorem dX11_put_36 : decode cX11_put 36 = .ok (.invokestatic 132, 3) := by decide +kernel
theorem dX11_put_39 : decode cX11_put 39 = .ok (.ifCond .ne 10, 3) := by decide +kernel
theorem dX11_put_42 : decode cX11_put 42 = .ok (.iload_n 2, 1) := by decide +kernel
theorem dX11_put_43 : decode cX11_put 43 = .ok (.invokestatic 140, 3) := by decide +kernel
theorem dX11_put_46 : decode cX11_put 46 = .ok (.ifCond .eq 8, 3) := by decide +kernel
theorem dX11_put_49 : decode cX11_put 49 = .ok (.lload 4, 2) := by decide +kernel
theorem dX11_put_51 : decode cX11_put 51 = .ok (.goto 14, 3) := by decide +kernel
theorem dX11_put_54 : decode cX11_put 54 = .ok (.lload 4, 2) := by decide +kernel
theorem dX11_put_56 : decode cX11_put 56 = .ok (.aload_n 0, 1) := by decide +kernel
theorem dX11_put_57 : decode cX11_put 57 = .ok (.getfield 7, 3) := by decide +kernel
theorem dX11_put_60 : decode cX11_put 60 = .ok (.iload_n 1, 1) := by decide +kernel
theorem dX11_put_61 : decode cX11_put 61 = .ok (.iaload, 1) := by decide +kernel
theorem dX11_put_62 : decode cX11_put 62 = .ok (.invokestatic 105, 3) := by decide +kernel
theorem dX11_put_65 : decode cX11_put 65 = .ok (.lastore, 1) := by decide +kernel
theorem dX11_put_66 : decode cX11_put 66 = .ok (.aload_n 0, 1) := by decide +kernel
theorem dX11_put_67 : decode cX11_put 67 = .ok (.getfield 13, 3) := by decide +kernel
theorem dX11_put_70 : decode cX11_put 70 = .ok (.iload_n 1, 1) := by decide +kernel
theorem dX11_put_71 : decode cX11_put 71 = .ok (.dup2, 1) := by decide +kernel
theorem dX11_put_72 : decode cX11_put 72 = .ok (.iaload, 1) := by decide +kernel
theorem dX11_put_73 : decode cX11_put 73 = .ok (.iconst 1, 1) := by decide +kernel
theorem dX11_put_74 : decode cX11_put 74 = .ok (.iadd, 1) := by decide +kernel
theorem dX11_put_75 : decode cX11_put 75 = .ok (.iastore, 1) := by decide +kernel
theorem dX11_put_76 : decode cX11_put 76 = .ok (.aload_n 0, 1) := by decide +kernel
theorem dX11_put_77 : decode cX11_put 77 = .ok (.getfield 13, 3) := by decide +kernel
theorem dX11_put_80 : decode cX11_put 80 = .ok (.iload_n 1, 1) := by decide +kernel
theorem dX11_put_81 : decode cX11_put 81 = .ok (.iaload, 1) := by decide +kernel
theorem dX11_put_82 : decode cX11_put 82 = .ok (.ireturn, 1) := by decide +kernel
theorem dX11_moveAct_0 : decode cX11_moveAct 0 = .ok (.aload_n 0, 1) := by decide +kernel
theorem dX11_moveAct_1 : decode cX11_moveAct 1 = .ok (.getfield 32, 3) := by decide +kernel
theorem dX11_moveAct_4 : decode cX11_moveAct 4 = .ok (.iload_n 2, 1) := by decide +kernel
theorem dX11_moveAct_5 : decode cX11_moveAct 5 = .ok (.aload_n 0, 1) := by decide +kernel
theorem dX11_moveAct_6 : decode cX11_moveAct 6 = .ok (.getfield 32, 3) := by decide +kernel
theorem dX11_moveAct_9 : decode cX11_moveAct 9 = .ok (.iload_n 1, 1) := by decide +kernel
theorem dX11_moveAct_10 : decode cX11_moveAct 10 = .ok (.iaload, 1) := by decide +kernel
theorem dX11_moveAct_11 : decode cX11_moveAct 11 = .ok (.iastore, 1) := by decide +kernel
theorem dX11_moveAct_12 : decode cX11_moveAct 12 = .ok (.aload_n 0, 1) := by decide +kernel
theorem dX11_moveAct_13 : decode cX11_moveAct 13 = .ok (.getfield 35, 3) := by decide +kernel
theorem dX11_moveAct_16 : decode cX11_moveAct 16 = .ok (.iload_n 2, 1) := by decide +kernel
theorem dX11_moveAct_17 : decode cX11_moveAct 17 = .ok (.aload_n 0, 1) := by decide +kernel
theorem dX11_moveAct_18 : decode cX11_moveAct 18 = .ok (.getfield 35, 3) := by decide +kernel
theorem dX11_moveAct_21 : decode cX11_moveAct 21 = .ok (.iload_n 1, 1) := by decide +kernel
theorem dX11_moveAct_22 : decode cX11_moveAct 22 = .ok (.iaload, 1) := by decide +kernel
theorem dX11_moveAct_23 : decode cX11_moveAct 23 = .ok (.iastore, 1) := by decide +kernel
theorem dX11_moveAct_24 : decode cX11_moveAct 24 = .ok (.aload_n 0, 1) := by decide +kernel
theorem dX11_moveAct_25 : decode cX11_moveAct 25 = .ok (.getfield 38, 3) := by decide +kernel
theorem dX11_moveAct_28 : decode cX11_moveAct 28 = .ok (.iload_n 2, 1) := by decide +kernel
theorem dX11_moveAct_29 : decode cX11_moveAct 29 = .ok (.aload_n 0, 1) := by decide +kernel
theorem dX11_moveAct_30 : decode cX11_moveAct 30 = .ok (.getfield 38, 3) := by decide +kernel
theorem dX11_moveAct_33 : decode cX11_moveAct 33 = .ok (.iload_n 1, 1) := by decide +kernel
theorem dX11_moveAct_34 : decode cX11_moveAct 34 = .ok (.iaload, 1) := by decide +kernel
theorem dX11_moveAct_35 : decode cX11_moveAct 35 = .ok (.iastore, 1) := by decide +kernel
theorem dX11_moveAct_36 : decode cX11_moveAct 36 = .ok (.aload_n 0, 1) := by decide +kernel
theorem dX11_moveAct_37 : decode cX11_moveAct 37 = .ok (.getfield 41, 3) := by decide +kernel
theorem dX11_moveAct_40 : decode cX11_moveAct 40 = .ok (.iload_n 2, 1) := by decide +kernel
theorem dX11_moveAct_41 : decode cX11_moveAct 41 = .ok (.aload_n 0, 1) := by decide +kernel
theorem dX11_moveAct_42 : decode cX11_moveAct 42 = .ok (.getfield 41, 3) := by decide +kernel
theorem dX11_moveAct_45 : decode cX11_moveAct 45 = .ok (.iload_n 1, 1) := by decide +kernel
theorem dX11_moveAct_46 : decode cX11_moveAct 46 = .ok (.laload, 1) := by decide +kernel
theorem dX11_moveAct_47 : decode cX11_moveAct 47 = .ok (.lastore, 1) := by decide +kernel
theorem dX11_moveAct_48 : decode cX11_moveAct 48 = .ok (.aload_n 0, 1) := by decide +kernel
theorem dX11_moveAct_49 : decode cX11_moveAct 49 = .ok (.bipush 8, 2) := by decide +kernel
theorem dX11_moveAct_51 : decode cX11_moveAct 51 = .ok (.iload_n 1, 1) := by decide +kernel
theorem dX11_moveAct_52 : decode cX11_moveAct 52 = .ok (.iadd, 1) := by decide +kernel
theorem dX11_moveAct_53 : decode cX11_moveAct 53 = .ok (.bipush 8, 2) := by decide +kernel
theorem dX11_moveAct_55 : decode cX11_moveAct 55 = .ok (.iload_n 2, 1) := by decide +kernel
theorem dX11_moveAct_56 : decode cX11_moveAct 56 = .ok (.iadd, 1) := by decide +kernel
theorem dX11_moveAct_57 : decode cX11_moveAct 57 = .ok (.invokevirtual 143, 3) := by decide +kernel
theorem dX11_moveAct_60 : decode cX11_moveAct 60 = .ok (.return_, 1) := by decide +kernel
theorem dX11_copyHeld_0 : decode cX11_copyHeld 0 = .ok (.aload_n 0, 1) := by decide +kernel
theorem dX11_copyHeld_1 : decode cX11_copyHeld 1 = .ok (.getfield 44, 3) := by decide +kernel
theorem dX11_copyHeld_4 : decode cX11_copyHeld 4 = .ok (.iload_n 2, 1) := by decide +kernel
theorem dX11_copyHeld_5 : decode cX11_copyHeld 5 = .ok (.aload_n 0, 1) := by decide +kernel
theorem dX11_copyHeld_6 : decode cX11_copyHeld 6 = .ok (.getfield 44, 3) := by decide +kernel
theorem dX11_copyHeld_9 : decode cX11_copyHeld 9 = .ok (.iload_n 1, 1) := by decide +kernel
theorem dX11_copyHeld_10 : decode cX11_copyHeld 10 = .ok (.iaload, 1) := by decide +kernel
theorem dX11_copyHeld_11 : decode cX11_copyHeld 11 = .ok (.iastore, 1) := by decide +kernel
theorem dX11_copyHeld_12 : decode cX11_copyHeld 12 = .ok (.aload_n 0, 1) := by decide +kernel
theorem dX11_copyHeld_13 : decode cX11_copyHeld 13 = .ok (.getfield 47, 3) := by decide +kernel
theorem dX11_copyHeld_16 : decode cX11_copyHeld 16 = .ok (.iload_n 2, 1) := by decide +kernel
theorem dX11_copyHeld_17 : decode cX11_copyHeld 17 = .ok (.aload_n 0, 1) := by decide +kernel
theorem dX11_copyHeld_18 : decode cX11_copyHeld 18 = .ok (.getfield 47, 3) := by decide +kernel
theorem dX11_copyHeld_21 : decode cX11_copyHeld 21 = .ok (.iload_n 1, 1) := by decide +kernel
theorem dX11_copyHeld_22 : decode cX11_copyHeld 22 = .ok (.iaload, 1) := by decide +kernel
theorem dX11_copyHeld_23 : decode cX11_copyHeld 23 = .ok (.iastore, 1) := by decide +kernel
theorem dX11_copyHeld_24 : decode cX11_copyHeld 24 = .ok (.iconst 0, 1) := by decide +kernel
theorem dX11_copyHeld_25 : decode cX11_copyHeld 25 = .ok (.istore_n 3, 1) := by decide +kernel
theorem dX11_copyHeld_26 : decode cX11_copyHeld 26 = .ok (.iload_n 3, 1) := by decide +kernel
theorem dX11_copyHeld_27 : decode cX11_copyHeld 27 = .ok (.aload_n 0, 1) := by decide +kernel
theorem dX11_copyHeld_28 : decode cX11_copyHeld 28 = .ok (.getfield 47, 3) := by decide +kernel
theorem dX11_copyHeld_31 : decode cX11_copyHeld 31 = .ok (.iload_n 1, 1) := by decide +kernel
theorem dX11_copyHeld_32 : decode cX11_copyHeld 32 = .ok (.iaload, 1) := by decide +kernel
theorem dX11_copyHeld_33 : decode cX11_copyHeld 33 = .ok (.if_icmp .ge 31, 3) := by decide +kernel
theorem dX11_copyHeld_36 : decode cX11_copyHeld 36 = .ok (.aload_n 0, 1) := by decide +kernel
theorem dX11_copyHeld_37 : decode cX11_copyHeld 37 = .ok (.getfield 50, 3) := by decide +kernel
theorem dX11_copyHeld_40 : decode cX11_copyHeld 40 = .ok (.bipush 100, 2) := by decide +kernel
theorem dX11_copyHeld_42 : decode cX11_copyHeld 42 = .ok (.iload_n 2, 1) := by decide +kernel
theorem dX11_copyHeld_43 : decode cX11_copyHeld 43 = .ok (.imul, 1) := by decide +kernel
theorem dX11_copyHeld_44 : decode cX11_copyHeld 44 = .ok (.iload_n 3, 1) := by decide +kernel
theorem dX11_copyHeld_45 : decode cX11_copyHeld 45 = .ok (.iadd, 1) := by decide +kernel
theorem dX11_copyHeld_46 : decode cX11_copyHeld 46 = .ok (.aload_n 0, 1) := by decide +kernel
theorem dX11_copyHeld_47 : decode cX11_copyHeld 47 = .ok (.getfield 50, 3) := by decide +kernel
theorem dX11_copyHeld_50 : decode cX11_copyHeld 50 = .ok (.bipush 100, 2) := by decide +kernel
theorem dX11_copyHeld_52 : decode cX11_copyHeld 52 = .ok (.iload_n 1, 1) := by decide +kernel
theorem dX11_copyHeld_53 : decode cX11_copyHeld 53 = .ok (.imul, 1) := by decide +kernel
theorem dX11_copyHeld_54 : decode cX11_copyHeld 54 = .ok (.iload_n 3, 1) := by decide +kernel
theorem dX11_copyHeld_55 : decode cX11_copyHeld 55 = .ok (.iadd, 1) := by decide +kernel
theorem dX11_copyHeld_56 : decode cX11_copyHeld 56 = .ok (.laload, 1) := by decide +kernel
theorem dX11_copyHeld_57 : decode cX11_copyHeld 57 = .ok (.lastore, 1) := by decide +kernel
theorem dX11_copyHeld_58 : decode cX11_copyHeld 58 = .ok (.iinc 3 1, 3) := by decide +kernel
theorem dX11_copyHeld_61 : decode cX11_copyHeld 61 = .ok (.goto (-35), 3) := by decide +kernel
theorem dX11_copyHeld_64 : decode cX11_copyHeld 64 = .ok (.return_, 1) := by decide +kernel
theorem dX11_note_0 : decode cX11_note 0 = .ok (.aload_n 0, 1) := by decide +kernel
theorem dX11_note_1 : decode cX11_note 1 = .ok (.getfield 147, 3) := by decide +kernel
theorem dX11_note_4 : decode cX11_note 4 = .ok (.bipush 50, 2) := by decide +kernel
theorem dX11_note_6 : decode cX11_note 6 = .ok (.if_icmp .ne 41, 3) := by decide +kernel
theorem dX11_note_9 : decode cX11_note 9 = .ok (.iconst 0, 1) := by decide +kernel
theorem dX11_note_10 : decode cX11_note 10 = .ok (.istore 6, 2) := by decide +kernel
theorem dX11_note_12 : decode cX11_note 12 = .ok (.iload 6, 2) := by decide +kernel
theorem dX11_note_14 : decode cX11_note 14 = .ok (.iconst 1, 1) := by decide +kernel
theorem dX11_note_15 : decode cX11_note 15 = .ok (.iadd, 1) := by decide +kernel
theorem dX11_note_16 : decode cX11_note 16 = .ok (.bipush 50, 2) := by decide +kernel
theorem dX11_note_18 : decode cX11_note 18 = .ok (.if_icmp .ge 19, 3) := by decide +kernel
theorem dX11_note_21 : decode cX11_note 21 = .ok (.aload_n 0, 1) := by decide +kernel
theorem dX11_note_22 : decode cX11_note 22 = .ok (.iload 6, 2) := by decide +kernel
theorem dX11_note_24 : decode cX11_note 24 = .ok (.iconst 1, 1) := by decide +kernel
theorem dX11_note_25 : decode cX11_note 25 = .ok (.iadd, 1) := by decide +kernel
theorem dX11_note_26 : decode cX11_note 26 = .ok (.iload 6, 2) := by decide +kernel
theorem dX11_note_28 : decode cX11_note 28 = .ok (.invokevirtual 150, 3) := by decide +kernel
theorem dX11_note_31 : decode cX11_note 31 = .ok (.iinc 6 1, 3) := by decide +kernel
theorem dX11_note_34 : decode cX11_note 34 = .ok (.goto (-22), 3) := by decide +kernel
theorem dX11_note_37 : decode cX11_note 37 = .ok (.aload_n 0, 1) := by decide +kernel
theorem dX11_note_38 : decode cX11_note 38 = .ok (.dup, 1) := by decide +kernel
theorem dX11_note_39 : decode cX11_note 39 = .ok (.getfield 147, 3) := by decide +kernel
theorem dX11_note_42 : decode cX11_note 42 = .ok (.iconst 1, 1) := by decide +kernel
theorem dX11_note_43 : decode cX11_note 43 = .ok (.isub, 1) := by decide +kernel
theorem dX11_note_44 : decode cX11_note 44 = .ok (.putfield 147, 3) := by decide +kernel
theorem dX11_note_47 : decode cX11_note 47 = .ok (.aload_n 0, 1) := by decide +kernel
theorem dX11_note_48 : decode cX11_note 48 = .ok (.getfield 32, 3) := by decide +kernel
theorem dX11_note_51 : decode cX11_note 51 = .ok (.aload_n 0, 1) := by decide +kernel
theorem dX11_note_52 : decode cX11_note 52 = .ok (.getfield 147, 3) := by decide +kernel
theorem dX11_note_55 : decode cX11_note 55 = .ok (.iload_n 1, 1) := by decide +kernel
theorem dX11_note_56 : decode cX11_note 56 = .ok (.iastore, 1) := by decide +kernel
theorem dX11_note_57 : decode cX11_note 57 = .ok (.aload_n 0, 1) := by decide +kernel
theorem dX11_note_58 : decode cX11_note 58 = .ok (.getfield 35, 3) := by decide +kernel
theorem dX11_note_61 : decode cX11_note 61 = .ok (.aload_n 0, 1) := by decide +kernel
theorem dX11_note_62 : decode cX11_note 62 = .ok (.getfield 147, 3) := by decide +kernel
theorem dX11_note_65 : decode cX11_note 65 = .ok (.iload_n 2, 1) := by decide +kernel
theorem dX11_note_66 : decode cX11_note 66 = .ok (.iastore, 1) := by decide +kernel
theorem dX11_note_67 : decode cX11_note 67 = .ok (.aload_n 0, 1) := by decide +kernel
theorem dX11_note_68 : decode cX11_note 68 = .ok (.getfield 38, 3) := by decide +kernel
theorem dX11_note_71 : decode cX11_note 71 = .ok (.aload_n 0, 1) := by decide +kernel
theorem dX11_note_72 : decode cX11_note 72 = .ok (.getfield 147, 3) := by decide +kernel
theorem dX11_note_75 : decode cX11_note 75 = .ok (.iload_n 3, 1) := by decide +kernel
theorem dX11_note_76 : decode cX11_note 76 = .ok (.iastore, 1) := by decide +kernel
theorem dX11_note_77 : decode cX11_note 77 = .ok (.aload_n 0, 1) := by decide +kernel
theorem dX11_note_78 : decode cX11_note 78 = .ok (.getfield 41, 3) := by decide +kernel
theorem dX11_note_81 : decode cX11_note 81 = .ok (.aload_n 0, 1) := by decide +kernel
theorem dX11_note_82 : decode cX11_note 82 = .ok (.getfield 147, 3) := by decide +kernel
theorem dX11_note_85 : decode cX11_note 85 = .ok (.lload 4, 2) := by decide +kernel
theorem dX11_note_87 : decode cX11_note 87 = .ok (.lastore, 1) := by decide +kernel
theorem dX11_note_88 : decode cX11_note 88 = .ok (.aload_n 0, 1) := by decide +kernel
theorem dX11_note_89 : decode cX11_note 89 = .ok (.getfield 47, 3) := by decide +kernel
theorem dX11_note_92 : decode cX11_note 92 = .ok (.bipush 8, 2) := by decide +kernel
theorem dX11_note_94 : decode cX11_note 94 = .ok (.aload_n 0, 1) := by decide +kernel
theorem dX11_note_95 : decode cX11_note 95 = .ok (.getfield 147, 3) := by decide +kernel
theorem dX11_note_98 : decode cX11_note 98 = .ok (.iadd, 1) := by decide +kernel
theorem dX11_note_99 : decode cX11_note 99 = .ok (.iconst 0, 1) := by decide +kernel
theorem dX11_note_100 : decode cX11_note 100 = .ok (.iastore, 1) := by decide +kernel
theorem dX11_note_101 : decode cX11_note 101 = .ok (.aload_n 0, 1) := by decide +kernel
theorem dX11_note_102 : decode cX11_note 102 = .ok (.dup, 1) := by decide +kernel
theorem dX11_note_103 : decode cX11_note 103 = .ok (.getfield 147, 3) := by decide +kernel
theorem dX11_note_106 : decode cX11_note 106 = .ok (.iconst 1, 1) := by decide +kernel
theorem dX11_note_107 : decode cX11_note 107 = .ok (.iadd, 1) := by decide +kernel
theorem dX11_note_108 : decode cX11_note 108 = .ok (.putfield 147, 3) := by decide +kernel
theorem dX11_note_111 : decode cX11_note 111 = .ok (.return_, 1) := by decide +kernel
theorem dX11_form_0 : decode cX11_form 0 = .ok (.iload_n 1, 1) := by decide +kernel
theorem dX11_form_1 : decode cX11_form 1 = .ok (.invokestatic 153, 3) := by decide +kernel
theorem dX11_form_4 : decode cX11_form 4 = .ok (.ifCond .ne 5, 3) := by decide +kernel
theorem dX11_form_7 : decode cX11_form 7 = .ok (.iconst (-1), 1) := by decide +kernel
theorem dX11_form_8 : decode cX11_form 8 = .ok (.ireturn, 1) := by decide +kernel
theorem dX11_form_9 : decode cX11_form 9 = .ok (.aload_n 0, 1) := by decide +kernel
theorem dX11_form_10 : decode cX11_form 10 = .ok (.getfield 118, 3) := by decide +kernel
theorem dX11_form_13 : decode cX11_form 13 = .ok (.bipush 60, 2) := by decide +kernel
theorem dX11_form_15 : decode cX11_form 15 = .ok (.if_icmp .ne 6, 3) := by decide +kernel
theorem dX11_form_18 : decode cX11_form 18 = .ok (.bipush (-2), 2) := by decide +kernel
theorem dX11_form_20 : decode cX11_form 20 = .ok (.ireturn, 1) := by decide +kernel
theorem dX11_form_21 : decode cX11_form 21 = .ok (.aload_n 0, 1) := by decide +kernel
theorem dX11_form_22 : decode cX11_form 22 = .ok (.iload_n 1, 1) := by decide +kernel
theorem dX11_form_23 : decode cX11_form 23 = .ok (.invokevirtual 156, 3) := by decide +kernel
theorem dX11_form_26 : decode cX11_form 26 = .ok (.istore_n 2, 1) := by decide +kernel
theorem dX11_form_27 : decode cX11_form 27 = .ok (.aload_n 0, 1) := by decide +kernel
theorem dX11_form_28 : decode cX11_form 28 = .ok (.iconst 1, 1) := by decide +kernel
theorem dX11_form_29 : decode cX11_form 29 = .ok (.iload_n 2, 1) := by decide +kernel
theorem dX11_form_30 : decode cX11_form 30 = .ok (.iconst 0, 1) := by decide +kernel
theorem dX11_form_31 : decode cX11_form 31 = .ok (.lconst 0, 1) := by decide +kernel
theorem dX11_form_32 : decode cX11_form 32 = .ok (.invokevirtual 160, 3) := by decide +kernel
theorem dX11_form_35 : decode cX11_form 35 = .ok (.iload_n 2, 1) := by decide +kernel
theorem dX11_form_36 : decode cX11_form 36 = .ok (.ireturn, 1) := by decide +kernel
theorem dX11_step_0 : decode cX11_step 0 = .ok (.aload_n 0, 1) := by decide +kernel
theorem dX11_step_1 : decode cX11_step 1 = .ok (.iload_n 1, 1) := by decide +kernel
theorem dX11_step_2 : decode cX11_step 2 = .ok (.invokevirtual 164, 3) := by decide +kernel
theorem dX11_step_5 : decode cX11_step 5 = .ok (.ifCond .eq 27, 3) := by decide +kernel
theorem dX11_step_8 : decode cX11_step 8 = .ok (.iload_n 2, 1) := by decide +kernel
theorem dX11_step_9 : decode cX11_step 9 = .ok (.ifCond .lt 23, 3) := by decide +kernel
theorem dX11_step_12 : decode cX11_step 12 = .ok (.iload_n 2, 1) := by decide +kernel
theorem dX11_step_13 : decode cX11_step 13 = .ok (.bipush 12, 2) := by decide +kernel
theorem dX11_step_15 : decode cX11_step 15 = .ok (.if_icmp .gt 17, 3) := by decide +kernel
theorem dX11_step_18 : decode cX11_step 18 = .ok (.iload_n 3, 1) := by decide +kernel
theorem dX11_step_19 : decode cX11_step 19 = .ok (.ifCond .lt 13, 3) := by decide +kernel
theorem dX11_step_22 : decode cX11_step 22 = .ok (.iload_n 3, 1) := by decide +kernel
theorem dX11_step_23 : decode cX11_step 23 = .ok (.aload_n 0, 1) := by decide +kernel
theorem dX11_step_24 : decode cX11_step 24 = .ok (.getfield 13, 3) := by decide +kernel
theorem dX11_step_27 : decode cX11_step 27 = .ok (.iload_n 1, 1) := by decide +kernel
theorem dX11_step_28 : decode cX11_step 28 = .ok (.iaload, 1) := by decide +kernel
theorem dX11_step_29 : decode cX11_step 29 = .ok (.if_icmp .le 5, 3) := by decide +kernel
theorem dX11_step_32 : decode cX11_step 32 = .ok (.iconst (-1), 1) := by decide +kernel
theorem dX11_step_33 : decode cX11_step 33 = .ok (.ireturn, 1) := by decide +kernel
theorem dX11_step_34 : decode cX11_step 34 = .ok (.iload_n 2, 1) := by decide +kernel
theorem dX11_step_35 : decode cX11_step 35 = .ok (.invokestatic 132, 3) := by decide +kernel
theorem dX11_step_38 : decode cX11_step 38 = .ok (.ifCond .eq 23, 3) := by decide +kernel
theorem dX11_step_41 : decode cX11_step 41 = .ok (.lload 4, 2) := by decide +kernel
theorem dX11_step_43 : decode cX11_step 43 = .ok (.lconst 0, 1) := by decide +kernel
theorem dX11_step_44 : decode cX11_step 44 = .ok (.lcmp, 1) := by decide +kernel
theorem dX11_step_45 : decode cX11_step 45 = .ok (.ifCond .lt 43, 3) := by decide +kernel
theorem dX11_step_48 : decode cX11_step 48 = .ok (.lload 4, 2) := by decide +kernel
theorem dX11_step_50 : decode cX11_step 50 = .ok (.aload_n 0, 1) := by decide +kernel
theorem dX11_step_51 : decode cX11_step 51 = .ok (.getfield 13, 3) := by decide +kernel
theorem dX11_step_54 : decode cX11_step 54 = .ok (.iload_n 1, 1) := by decide +kernel
theorem dX11_step_55 : decode cX11_step 55 = .ok (.iaload, 1) := by decide +kernel
theorem dX11_step_56 : decode cX11_step 56 = .ok (.i2l, 1) := by decide +kernel
theorem dX11_step_57 : decode cX11_step 57 = .ok (.lcmp, 1) := by decide +kernel
theorem dX11_step_58 : decode cX11_step 58 = .ok (.ifCond .gt 30, 3) := by decide +kernel
theorem dX11_step_61 : decode cX11_step 61 = .ok (.iload_n 2, 1) := by decide +kernel
theorem dX11_step_62 : decode cX11_step 62 = .ok (.invokestatic 140, 3) := by decide +kernel
theorem dX11_step_65 : decode cX11_step 65 = .ok (.ifCond .eq 25, 3) := by decide +kernel
theorem dX11_step_68 : decode cX11_step 68 = .ok (.lload 4, 2) := by decide +kernel
theorem dX11_step_70 : decode cX11_step 70 = .ok (.lconst 0, 1) := by decide +kernel
theorem dX11_step_71 : decode cX11_step 71 = .ok (.lcmp, 1) := by decide +kernel
theorem dX11_step_72 : decode cX11_step 72 = .ok (.ifCond .lt 16, 3) := by decide +kernel
theorem dX11_step_75 : decode cX11_step 75 = .ok (.lload 4, 2) := by decide +kernel
theorem dX11_step_77 : decode cX11_step 77 = .ok (.aload_n 0, 1) := by decide +kernel
theorem dX11_step_78 : decode cX11_step 78 = .ok (.getfield 7, 3) := by decide +kernel
theorem dX11_step_81 : decode cX11_step 81 = .ok (.iload_n 1, 1) := by decide +kernel
theorem dX11_step_82 : decode cX11_step 82 = .ok (.iaload, 1) := by decide +kernel
theorem dX11_step_83 : decode cX11_step 83 = .ok (.i2l, 1) := by decide +kernel
theorem dX11_step_84 : decode cX11_step 84 = .ok (.lcmp, 1) := by decide +kernel
theorem dX11_step_85 : decode cX11_step 85 = .ok (.ifCond .lt 5, 3) := by decide +kernel
theorem dX11_step_88 : decode cX11_step 88 = .ok (.iconst (-1), 1) := by decide +kernel
theorem dX11_step_89 : decode cX11_step 89 = .ok (.ireturn, 1) := by decide +kernel
theorem dX11_step_90 : decode cX11_step 90 = .ok (.aload_n 0, 1) := by decide +kernel
theorem dX11_step_91 : decode cX11_step 91 = .ok (.getfield 13, 3) := by decide +kernel
theorem dX11_step_94 : decode cX11_step 94 = .ok (.iload_n 1, 1) := by decide +kernel
theorem dX11_step_95 : decode cX11_step 95 = .ok (.iaload, 1) := by decide +kernel
theorem dX11_step_96 : decode cX11_step 96 = .ok (.bipush 12, 2) := by decide +kernel
theorem dX11_step_98 : decode cX11_step 98 = .ok (.if_icmp .ne 6, 3) := by decide +kernel
theorem dX11_step_101 : decode cX11_step 101 = .ok (.bipush (-2), 2) := by decide +kernel
theorem dX11_step_103 : decode cX11_step 103 = .ok (.ireturn, 1) := by decide +kernel
theorem dX11_step_104 : decode cX11_step 104 = .ok (.aload_n 0, 1) := by decide +kernel
theorem dX11_step_105 : decode cX11_step 105 = .ok (.iload_n 1, 1) := by decide +kernel
theorem dX11_step_106 : decode cX11_step 106 = .ok (.iload_n 2, 1) := by decide +kernel
theorem dX11_step_107 : decode cX11_step 107 = .ok (.iload_n 3, 1) := by decide +kernel
theorem dX11_step_108 : decode cX11_step 108 = .ok (.lload 4, 2) := by decide +kernel
theorem dX11_step_110 : decode cX11_step 110 = .ok (.invokevirtual 167, 3) := by decide +kernel
theorem dX11_step_113 : decode cX11_step 113 = .ok (.istore 6, 2) := by decide +kernel
theorem dX11_step_115 : decode cX11_step 115 = .ok (.aload_n 0, 1) := by decide +kernel
theorem dX11_step_116 : decode cX11_step 116 = .ok (.iconst 2, 1) := by decide +kernel
theorem dX11_step_117 : decode cX11_step 117 = .ok (.iload_n 1, 1) := by decide +kernel
theorem dX11_step_118 : decode cX11_step 118 = .ok (.iconst 0, 1) := by decide +kernel
theorem dX11_step_119 : decode cX11_step 119 = .ok (.lconst 0, 1) := by decide +kernel
theorem dX11_step_120 : decode cX11_step 120 = .ok (.invokevirtual 160, 3) := by decide +kernel
theorem dX11_step_123 : decode cX11_step 123 = .ok (.iload 6, 2) := by decide +kernel
theorem dX11_step_125 : decode cX11_step 125 = .ok (.iconst 1, 1) := by decide +kernel
theorem dX11_step_126 : decode cX11_step 126 = .ok (.isub, 1) := by decide +kernel
theorem dX11_step_127 : decode cX11_step 127 = .ok (.ireturn, 1) := by decide +kernel
theorem dX11_drop_0 : decode cX11_drop 0 = .ok (.aload_n 0, 1) := by decide +kernel
theorem dX11_drop_1 : decode cX11_drop 1 = .ok (.getfield 118, 3) := by decide +kernel
theorem dX11_drop_4 : decode cX11_drop 4 = .ok (.ifCond .ne 5, 3) := by decide +kernel
theorem dX11_drop_7 : decode cX11_drop 7 = .ok (.iconst (-1), 1) := by decide +kernel
theorem dX11_drop_8 : decode cX11_drop 8 = .ok (.ireturn, 1) := by decide +kernel
theorem dX11_drop_9 : decode cX11_drop 9 = .ok (.aload_n 0, 1) := by decide +kernel
theorem dX11_drop_10 : decode cX11_drop 10 = .ok (.dup, 1) := by decide +kernel
theorem dX11_drop_11 : decode cX11_drop 11 = .ok (.getfield 118, 3) := by decide +kernel
theorem dX11_drop_14 : decode cX11_drop 14 = .ok (.iconst 1, 1) := by decide +kernel
theorem dX11_drop_15 : decode cX11_drop 15 = .ok (.isub, 1) := by decide +kernel
theorem dX11_drop_16 : decode cX11_drop 16 = .ok (.putfield 118, 3) := by decide +kernel
theorem dX11_drop_19 : decode cX11_drop 19 = .ok (.iconst 0, 1) := by decide +kernel
theorem dX11_drop_20 : decode cX11_drop 20 = .ok (.istore_n 1, 1) := by decide +kernel
theorem dX11_drop_21 : decode cX11_drop 21 = .ok (.iconst 0, 1) := by decide +kernel
theorem dX11_drop_22 : decode cX11_drop 22 = .ok (.istore_n 2, 1) := by decide +kernel
theorem dX11_drop_23 : decode cX11_drop 23 = .ok (.iload_n 2, 1) := by decide +kernel
theorem dX11_drop_24 : decode cX11_drop 24 = .ok (.aload_n 0, 1) := by decide +kernel
theorem dX11_drop_25 : decode cX11_drop 25 = .ok (.getfield 147, 3) := by decide +kernel
theorem dX11_drop_28 : decode cX11_drop 28 = .ok (.if_icmp .ge 44, 3) := by decide +kernel
theorem dX11_drop_31 : decode cX11_drop 31 = .ok (.aload_n 0, 1) := by decide +kernel
theorem dX11_drop_32 : decode cX11_drop 32 = .ok (.getfield 32, 3) := by decide +kernel
theorem dX11_drop_35 : decode cX11_drop 35 = .ok (.iload_n 2, 1) := by decide +kernel
theorem dX11_drop_36 : decode cX11_drop 36 = .ok (.iaload, 1) := by decide +kernel
theorem dX11_drop_37 : decode cX11_drop 37 = .ok (.iconst 3, 1) := by decide +kernel
theorem dX11_drop_38 : decode cX11_drop 38 = .ok (.if_icmp .ge 19, 3) := by decide +kernel
theorem dX11_drop_41 : decode cX11_drop 41 = .ok (.aload_n 0, 1) := by decide +kernel
theorem dX11_drop_42 : decode cX11_drop 42 = .ok (.getfield 35, 3) := by decide +kernel
theorem dX11_drop_45 : decode cX11_drop 45 = .ok (.iload_n 2, 1) := by decide +kernel
theorem dX11_drop_46 : decode cX11_drop 46 = .ok (.iaload, 1) := by decide +kernel
theorem dX11_drop_47 : decode cX11_drop 47 = .ok (.aload_n 0, 1) := by decide +kernel
theorem dX11_drop_48 : decode cX11_drop 48 = .ok (.getfield 118, 3) := by decide +kernel
theorem dX11_drop_51 : decode cX11_drop 51 = .ok (.if_icmp .ne 6, 3) := by decide +kernel
theorem dX11_drop_54 : decode cX11_drop 54 = .ok (.goto 12, 3) := by decide +kernel
theorem dX11_drop_57 : decode cX11_drop 57 = .ok (.aload_n 0, 1) := by decide +kernel
theorem dX11_drop_58 : decode cX11_drop 58 = .ok (.iload_n 2, 1) := by decide +kernel
theorem dX11_drop_59 : decode cX11_drop 59 = .ok (.iload_n 1, 1) := by decide +kernel
theorem dX11_drop_60 : decode cX11_drop 60 = .ok (.invokevirtual 150, 3) := by decide +kernel
theorem dX11_drop_63 : decode cX11_drop 63 = .ok (.iinc 1 1, 3) := by decide +kernel
theorem dX11_drop_66 : decode cX11_drop 66 = .ok (.iinc 2 1, 3) := by decide +kernel
theorem dX11_drop_69 : decode cX11_drop 69 = .ok (.goto (-46), 3) := by decide +kernel
theorem dX11_drop_72 : decode cX11_drop 72 = .ok (.aload_n 0, 1) := by decide +kernel
theorem dX11_drop_73 : decode cX11_drop 73 = .ok (.iload_n 1, 1) := by decide +kernel
theorem dX11_drop_74 : decode cX11_drop 74 = .ok (.putfield 147, 3) := by decide +kernel
theorem dX11_drop_77 : decode cX11_drop 77 = .ok (.aload_n 0, 1) := by decide +kernel
theorem dX11_drop_78 : decode cX11_drop 78 = .ok (.getfield 118, 3) := by decide +kernel
theorem dX11_drop_81 : decode cX11_drop 81 = .ok (.ireturn, 1) := by decide +kernel
theorem dX11_isAsking_0 : decode cX11_isAsking 0 = .ok (.iload_n 1, 1) := by decide +kernel
theorem dX11_isAsking_1 : decode cX11_isAsking 1 = .ok (.invokestatic 153, 3) := by decide +kernel
theorem dX11_isAsking_4 : decode cX11_isAsking 4 = .ok (.ifCond .eq 32, 3) := by decide +kernel
theorem dX11_isAsking_7 : decode cX11_isAsking 7 = .ok (.iload_n 2, 1) := by decide +kernel
theorem dX11_isAsking_8 : decode cX11_isAsking 8 = .ok (.ifCond .lt 28, 3) := by decide +kernel
theorem dX11_isAsking_11 : decode cX11_isAsking 11 = .ok (.iload_n 2, 1) := by decide +kernel
theorem dX11_isAsking_12 : decode cX11_isAsking 12 = .ok (.iconst 1, 1) := by decide +kernel
theorem dX11_isAsking_13 : decode cX11_isAsking 13 = .ok (.if_icmp .gt 23, 3) := by decide +kernel
theorem dX11_isAsking_16 : decode cX11_isAsking 16 = .ok (.iload_n 3, 1) := by decide +kernel
theorem dX11_isAsking_17 : decode cX11_isAsking 17 = .ok (.ifCond .lt 19, 3) := by decide +kernel
theorem dX11_isAsking_20 : decode cX11_isAsking 20 = .ok (.iload_n 3, 1) := by decide +kernel
theorem dX11_isAsking_21 : decode cX11_isAsking 21 = .ok (.iconst 5, 1) := by decide +kernel
theorem dX11_isAsking_22 : decode cX11_isAsking 22 = .ok (.if_icmp .gt 14, 3) := by decide +kernel
theorem dX11_isAsking_25 : decode cX11_isAsking 25 = .ok (.lload 4, 2) := by decide +kernel
theorem dX11_isAsking_27 : decode cX11_isAsking 27 = .ok (.iload_n 1, 1) := by decide +kernel
theorem dX11_isAsking_28 : decode cX11_isAsking 28 = .ok (.invokestatic 105, 3) := by decide +kernel
theorem dX11_isAsking_31 : decode cX11_isAsking 31 = .ok (.lconst 0, 1) := by decide +kernel
theorem dX11_isAsking_32 : decode cX11_isAsking 32 = .ok (.lcmp, 1) := by decide +kernel
theorem dX11_isAsking_33 : decode cX11_isAsking 33 = .ok (.ifCond .ne 5, 3) := by decide +kernel
theorem dX11_isAsking_36 : decode cX11_isAsking 36 = .ok (.iconst 0, 1) := by decide +kernel
theorem dX11_isAsking_37 : decode cX11_isAsking 37 = .ok (.ireturn, 1) := by decide +kernel
theorem dX11_isAsking_38 : decode cX11_isAsking 38 = .ok (.iload_n 2, 1) := by decide +kernel
theorem dX11_isAsking_39 : decode cX11_isAsking 39 = .ok (.ifCond .eq 26, 3) := by decide +kernel
theorem dX11_isAsking_42 : decode cX11_isAsking 42 = .ok (.iload_n 3, 1) := by decide +kernel
theorem dX11_isAsking_43 : decode cX11_isAsking 43 = .ok (.iconst 1, 1) := by decide +kernel
theorem dX11_isAsking_44 : decode cX11_isAsking 44 = .ok (.if_icmp .eq 8, 3) := by decide +kernel
theorem dX11_isAsking_47 : decode cX11_isAsking 47 = .ok (.iload_n 3, 1) := by decide +kernel
theorem dX11_isAsking_48 : decode cX11_isAsking 48 = .ok (.iconst 3, 1) := by decide +kernel
theorem dX11_isAsking_49 : decode cX11_isAsking 49 = .ok (.if_icmp .ne 16, 3) := by decide +kernel
theorem dX11_isAsking_52 : decode cX11_isAsking 52 = .ok (.lload 4, 2) := by decide +kernel
theorem dX11_isAsking_54 : decode cX11_isAsking 54 = .ok (.iload_n 1, 1) := by decide +kernel
theorem dX11_isAsking_55 : decode cX11_isAsking 55 = .ok (.invokestatic 105, 3) := by decide +kernel
theorem dX11_isAsking_58 : decode cX11_isAsking 58 = .ok (.iload_n 1, 1) := by decide +kernel
theorem dX11_isAsking_59 : decode cX11_isAsking 59 = .ok (.invokestatic 128, 3) := by decide +kernel
theorem dX11_isAsking_62 : decode cX11_isAsking 62 = .ok (.ifCond .ne 7, 3) := by decide +kernel
theorem dX11_isAsking_65 : decode cX11_isAsking 65 = .ok (.iconst 1, 1) := by decide +kernel
theorem dX11_isAsking_66 : decode cX11_isAsking 66 = .ok (.goto 4, 3) := by decide +kernel
theorem dX11_isAsking_69 : decode cX11_isAsking 69 = .ok (.iconst 0, 1) := by decide +kernel
theorem dX11_isAsking_70 : decode cX11_isAsking 70 = .ok (.ireturn, 1) := by decide +kernel
theorem dX11_take_0 : decode cX11_take 0 = .ok (.lload_n 3, 1) := by decide +kernel
theorem dX11_take_1 : decode cX11_take 1 = .ok (.iload_n 1, 1) := by decide +kernel
theorem dX11_take_2 : decode cX11_take 2 = .ok (.invokestatic 105, 3) := by decide +kernel
theorem dX11_take_5 : decode cX11_take 5 = .ok (.lstore 5, 2) := by decide +kernel
theorem dX11_take_7 : decode cX11_take 7 = .ok (.aload_n 0, 1) := by decide +kernel
theorem dX11_take_8 : decode cX11_take 8 = .ok (.iload_n 2, 1) := by decide +kernel
theorem dX11_take_9 : decode cX11_take 9 = .ok (.iconst 1, 1) := by decide +kernel
theorem dX11_take_10 : decode cX11_take 10 = .ok (.if_icmp .ne 22, 3) := by decide +kernel
theorem dX11_take_13 : decode cX11_take 13 = .ok (.lload 5, 2) := by decide +kernel
theorem dX11_take_15 : decode cX11_take 15 = .ok (.iload_n 1, 1) := by decide +kernel
theorem dX11_take_16 : decode cX11_take 16 = .ok (.invokestatic 128, 3) := by decide +kernel
theorem dX11_take_19 : decode cX11_take 19 = .ok (.ifCond .eq 13, 3) := by decide +kernel
theorem dX11_take_22 : decode cX11_take 22 = .ok (.lload 5, 2) := by decide +kernel
theorem dX11_take_24 : decode cX11_take 24 = .ok (.lneg, 1) := by decide +kernel
theorem dX11_take_25 : decode cX11_take 25 = .ok (.iload_n 1, 1) := by decide +kernel
theorem dX11_take_26 : decode cX11_take 26 = .ok (.invokestatic 105, 3) := by decide +kernel
theorem dX11_take_29 : decode cX11_take 29 = .ok (.goto 5, 3) := by decide +kernel
theorem dX11_take_32 : decode cX11_take 32 = .ok (.lload 5, 2) := by decide +kernel
theorem dX11_take_34 : decode cX11_take 34 = .ok (.putfield 171, 3) := by decide +kernel
theorem dX11_take_37 : decode cX11_take 37 = .ok (.aload_n 0, 1) := by decide +kernel
theorem dX11_take_38 : decode cX11_take 38 = .ok (.iconst 0, 1) := by decide +kernel
theorem dX11_take_39 : decode cX11_take 39 = .ok (.putfield 174, 3) := by decide +kernel
theorem dX11_take_42 : decode cX11_take 42 = .ok (.aload_n 0, 1) := by decide +kernel
theorem dX11_take_43 : decode cX11_take 43 = .ok (.getfield 171, 3) := by decide +kernel
theorem dX11_take_46 : decode cX11_take 46 = .ok (.aload_n 0, 1) := by decide +kernel
theorem dX11_take_47 : decode cX11_take 47 = .ok (.getfield 174, 3) := by decide +kernel
theorem dX11_take_50 : decode cX11_take 50 = .ok (.lushr, 1) := by decide +kernel
theorem dX11_take_51 : decode cX11_take 51 = .ok (.lconst 1, 1) := by decide +kernel
theorem dX11_take_52 : decode cX11_take 52 = .ok (.land, 1) := by decide +kernel
theorem dX11_take_53 : decode cX11_take 53 = .ok (.lconst 0, 1) := by decide +kernel
theorem dX11_take_54 : decode cX11_take 54 = .ok (.lcmp, 1) := by decide +kernel
theorem dX11_take_55 : decode cX11_take 55 = .ok (.ifCond .ne 16, 3) := by decide +kernel
theorem dX11_take_58 : decode cX11_take 58 = .ok (.aload_n 0, 1) := by decide +kernel
theorem dX11_take_59 : decode cX11_take 59 = .ok (.dup, 1) := by decide +kernel
theorem dX11_take_60 : decode cX11_take 60 = .ok (.getfield 174, 3) := by decide +kernel
theorem dX11_take_63 : decode cX11_take 63 = .ok (.iconst 1, 1) := by decide +kernel
theorem dX11_take_64 : decode cX11_take 64 = .ok (.iadd, 1) := by decide +kernel
theorem dX11_take_65 : decode cX11_take 65 = .ok (.putfield 174, 3) := by decide +kernel
theorem dX11_take_68 : decode cX11_take 68 = .ok (.goto (-26), 3) := by decide +kernel
theorem dX11_take_71 : decode cX11_take 71 = .ok (.aload_n 0, 1) := by decide +kernel
theorem dX11_take_72 : decode cX11_take 72 = .ok (.aload_n 0, 1) := by decide +kernel
theorem dX11_take_73 : decode cX11_take 73 = .ok (.getfield 171, 3) := by decide +kernel
theorem dX11_take_76 : decode cX11_take 76 = .ok (.aload_n 0, 1) := by decide +kernel
theorem dX11_take_77 : decode cX11_take 77 = .ok (.getfield 174, 3) := by decide +kernel
theorem dX11_take_80 : decode cX11_take 80 = .ok (.lushr, 1) := by decide +kernel
theorem dX11_take_81 : decode cX11_take 81 = .ok (.putfield 177, 3) := by decide +kernel
theorem dX11_take_84 : decode cX11_take 84 = .ok (.return_, 1) := by decide +kernel
theorem dX11_find_0 : decode cX11_find 0 = .ok (.iload_n 1, 1) := by decide +kernel
theorem dX11_find_1 : decode cX11_find 1 = .ok (.bipush 64, 2) := by decide +kernel
theorem dX11_find_3 : decode cX11_find 3 = .ok (.if_icmp .ne 22, 3) := by decide +kernel
theorem dX11_find_6 : decode cX11_find 6 = .ok (.aload_n 0, 1) := by decide +kernel
theorem dX11_find_7 : decode cX11_find 7 = .ok (.aload_n 0, 1) := by decide +kernel
theorem dX11_find_8 : decode cX11_find 8 = .ok (.getfield 171, 3) := by decide +kernel
theorem dX11_find_11 : decode cX11_find 11 = .ok (.lneg, 1) := by decide +kernel
theorem dX11_find_12 : decode cX11_find 12 = .ok (.aload_n 0, 1) := by decide +kernel
theorem dX11_find_13 : decode cX11_find 13 = .ok (.getfield 171, 3) := by decide +kernel
theorem dX11_find_16 : decode cX11_find 16 = .ok (.invokevirtual 180, 3) := by decide +kernel
theorem dX11_find_19 : decode cX11_find 19 = .ok (.lconst 1, 1) := by decide +kernel
theorem dX11_find_20 : decode cX11_find 20 = .ok (.ladd, 1) := by decide +kernel
theorem dX11_find_21 : decode cX11_find 21 = .ok (.lstore_n 3, 1) := by decide +kernel
theorem dX11_find_22 : decode cX11_find 22 = .ok (.goto 15, 3) := by decide +kernel
theorem dX11_find_25 : decode cX11_find 25 = .ok (.aload_n 0, 1) := by decide +kernel
theorem dX11_find_26 : decode cX11_find 26 = .ok (.lconst 1, 1) := by decide +kernel
theorem dX11_find_27 : decode cX11_find 27 = .ok (.iload_n 1, 1) := by decide +kernel
theorem dX11_find_28 : decode cX11_find 28 = .ok (.lshl, 1) := by decide +kernel
theorem dX11_find_29 : decode cX11_find 29 = .ok (.aload_n 0, 1) := by decide +kernel
theorem dX11_find_30 : decode cX11_find 30 = .ok (.getfield 171, 3) := by decide +kernel
theorem dX11_find_33 : decode cX11_find 33 = .ok (.invokevirtual 180, 3) := by decide +kernel
theorem dX11_find_36 : decode cX11_find 36 = .ok (.lstore_n 3, 1) := by decide +kernel
theorem dX11_find_37 : decode cX11_find 37 = .ok (.aload_n 0, 1) := by decide +kernel
theorem dX11_find_38 : decode cX11_find 38 = .ok (.getfield 112, 3) := by decide +kernel
theorem dX11_find_41 : decode cX11_find 41 = .ok (.lstore 5, 2) := by decide +kernel
theorem dX11_find_43 : decode cX11_find 43 = .ok (.iconst 0, 1) := by decide +kernel
theorem dX11_find_44 : decode cX11_find 44 = .ok (.istore 7, 2) := by decide +kernel
theorem dX11_find_46 : decode cX11_find 46 = .ok (.aload_n 0, 1) := by decide +kernel
theorem dX11_find_47 : decode cX11_find 47 = .ok (.iconst 0, 1) := by decide +kernel
theorem dX11_find_48 : decode cX11_find 48 = .ok (.putfield 183, 3) := by decide +kernel
theorem dX11_find_51 : decode cX11_find 51 = .ok (.aload_n 0, 1) := by decide +kernel
theorem dX11_find_52 : decode cX11_find 52 = .ok (.aload_n 0, 1) := by decide +kernel
theorem dX11_find_53 : decode cX11_find 53 = .ok (.getfield 171, 3) := by decide +kernel
theorem dX11_find_56 : decode cX11_find 56 = .ok (.lload 5, 2) := by decide +kernel
theorem dX11_find_58 : decode cX11_find 58 = .ok (.lsub, 1) := by decide +kernel
theorem dX11_find_59 : decode cX11_find 59 = .ok (.putfield 186, 3) := by decide +kernel
theorem dX11_find_62 : decode cX11_find 62 = .ok (.aload_n 0, 1) := by decide +kernel
theorem dX11_find_63 : decode cX11_find 63 = .ok (.getfield 183, 3) := by decide +kernel
theorem dX11_find_66 : decode cX11_find 66 = .ok (.iload_n 2, 1) := by decide +kernel
theorem dX11_find_67 : decode cX11_find 67 = .ok (.iadd, 1) := by decide +kernel
theorem dX11_find_68 : decode cX11_find 68 = .ok (.istore 8, 2) := by decide +kernel
theorem dX11_find_70 : decode cX11_find 70 = .ok (.iload 8, 2) := by decide +kernel
theorem dX11_find_72 : decode cX11_find 72 = .ok (.bipush 63, 2) := by decide +kernel
theorem dX11_find_74 : decode cX11_find 74 = .ok (.if_icmp .gt 115, 3) := by decide +kernel
theorem dX11_find_77 : decode cX11_find 77 = .ok (.lconst 1, 1) := by decide +kernel
theorem dX11_find_78 : decode cX11_find 78 = .ok (.iload 8, 2) := by decide +kernel
theorem dX11_find_80 : decode cX11_find 80 = .ok (.lshl, 1) := by decide +kernel
theorem dX11_find_81 : decode cX11_find 81 = .ok (.aload_n 0, 1) := by decide +kernel
theorem dX11_find_82 : decode cX11_find 82 = .ok (.getfield 186, 3) := by decide +kernel
theorem dX11_find_85 : decode cX11_find 85 = .ok (.invokestatic 108, 3) := by decide +kernel
theorem dX11_find_88 : decode cX11_find 88 = .ok (.ifCond .ne 6, 3) := by decide +kernel
theorem dX11_find_91 : decode cX11_find 91 = .ok (.goto 98, 3) := by decide +kernel
theorem dX11_find_94 : decode cX11_find 94 = .ok (.lload 5, 2) := by decide +kernel
theorem dX11_find_96 : decode cX11_find 96 = .ok (.aload_n 0, 1) := by decide +kernel
theorem dX11_find_97 : decode cX11_find 97 = .ok (.getfield 171, 3) := by decide +kernel
theorem dX11_find_100 : decode cX11_find 100 = .ok (.lload 5, 2) := by decide +kernel
theorem dX11_find_102 : decode cX11_find 102 = .ok (.lsub, 1) := by decide +kernel
theorem dX11_find_103 : decode cX11_find 103 = .ok (.invokestatic 108, 3) := by decide +kernel
theorem dX11_find_106 : decode cX11_find 106 = .ok (.ifCond .ne 7, 3) := by decide +kernel
theorem dX11_find_109 : decode cX11_find 109 = .ok (.iconst 1, 1) := by decide +kernel
theorem dX11_find_110 : decode cX11_find 110 = .ok (.goto 4, 3) := by decide +kernel
theorem dX11_find_113 : decode cX11_find 113 = .ok (.iconst 0, 1) := by decide +kernel
theorem dX11_find_114 : decode cX11_find 114 = .ok (.istore 9, 2) := by decide +kernel
theorem dX11_find_116 : decode cX11_find 116 = .ok (.lload_n 3, 1) := by decide +kernel
theorem dX11_find_117 : decode cX11_find 117 = .ok (.iload_n 1, 1) := by decide +kernel
theorem dX11_find_118 : decode cX11_find 118 = .ok (.iconst 1, 1) := by decide +kernel
theorem dX11_find_119 : decode cX11_find 119 = .ok (.isub, 1) := by decide +kernel
theorem dX11_find_120 : decode cX11_find 120 = .ok (.lushr, 1) := by decide +kernel
theorem dX11_find_121 : decode cX11_find 121 = .ok (.lconst 1, 1) := by decide +kernel
theorem dX11_find_122 : decode cX11_find 122 = .ok (.land, 1) := by decide +kernel
theorem dX11_find_123 : decode cX11_find 123 = .ok (.l2i, 1) := by decide +kernel
theorem dX11_find_124 : decode cX11_find 124 = .ok (.iconst 2, 1) := by decide +kernel
theorem dX11_find_125 : decode cX11_find 125 = .ok (.iload 7, 2) := by decide +kernel
theorem dX11_find_127 : decode cX11_find 127 = .ok (.imul, 1) := by decide +kernel
theorem dX11_find_128 : decode cX11_find 128 = .ok (.iadd, 1) := by decide +kernel
theorem dX11_find_129 : decode cX11_find 129 = .ok (.istore 7, 2) := by decide +kernel
theorem dX11_find_131 : decode cX11_find 131 = .ok (.lload_n 3, 1) := by decide +kernel
theorem dX11_find_132 : decode cX11_find 132 = .ok (.iconst 1, 1) := by decide +kernel
theorem dX11_find_133 : decode cX11_find 133 = .ok (.lshl, 1) := by decide +kernel
theorem dX11_find_134 : decode cX11_find 134 = .ok (.iload_n 1, 1) := by decide +kernel
theorem dX11_find_135 : decode cX11_find 135 = .ok (.invokestatic 105, 3) := by decide +kernel
theorem dX11_find_138 : decode cX11_find 138 = .ok (.iload 9, 2) := by decide +kernel
theorem dX11_find_140 : decode cX11_find 140 = .ok (.ifCond .eq 7, 3) := by decide +kernel
theorem dX11_find_143 : decode cX11_find 143 = .ok (.lconst 1, 1) := by decide +kernel
theorem dX11_find_144 : decode cX11_find 144 = .ok (.goto 4, 3) := by decide +kernel
theorem dX11_find_147 : decode cX11_find 147 = .ok (.lconst 0, 1) := by decide +kernel
theorem dX11_find_148 : decode cX11_find 148 = .ok (.lor, 1) := by decide +kernel
theorem dX11_find_149 : decode cX11_find 149 = .ok (.lstore_n 3, 1) := by decide +kernel
theorem dX11_find_150 : decode cX11_find 150 = .ok (.iload 9, 2) := by decide +kernel
theorem dX11_find_152 : decode cX11_find 152 = .ok (.ifCond .eq 16, 3) := by decide +kernel
theorem dX11_find_155 : decode cX11_find 155 = .ok (.lload 5, 2) := by decide +kernel
theorem dX11_find_157 : decode cX11_find 157 = .ok (.aload_n 0, 1) := by decide +kernel
theorem dX11_find_158 : decode cX11_find 158 = .ok (.getfield 171, 3) := by decide +kernel
theorem dX11_find_161 : decode cX11_find 161 = .ok (.lload 5, 2) := by decide +kernel
theorem dX11_find_163 : decode cX11_find 163 = .ok (.lsub, 1) := by decide +kernel
theorem dX11_find_164 : decode cX11_find 164 = .ok (.lsub, 1) := by decide +kernel
theorem dX11_find_165 : decode cX11_find 165 = .ok (.goto 9, 3) := by decide +kernel
theorem dX11_find_168 : decode cX11_find 168 = .ok (.ldc2_w 116, 3) := by decide +kernel
theorem dX11_find_171 : decode cX11_find 171 = .ok (.lload 5, 2) := by decide +kernel
theorem dX11_find_173 : decode cX11_find 173 = .ok (.lmul, 1) := by decide +kernel
theorem dX11_find_174 : decode cX11_find 174 = .ok (.lstore 5, 2) := by decide +kernel
theorem dX11_find_176 : decode cX11_find 176 = .ok (.aload_n 0, 1) := by decide +kernel
theorem dX11_find_177 : decode cX11_find 177 = .ok (.dup, 1) := by decide +kernel
theorem dX11_find_178 : decode cX11_find 178 = .ok (.getfield 183, 3) := by decide +kernel
theorem dX11_find_181 : decode cX11_find 181 = .ok (.iconst 1, 1) := by decide +kernel
theorem dX11_find_182 : decode cX11_find 182 = .ok (.iadd, 1) := by decide +kernel
theorem dX11_find_183 : decode cX11_find 183 = .ok (.putfield 183, 3) := by decide +kernel
theorem dX11_find_186 : decode cX11_find 186 = .ok (.goto (-135), 3) := by decide +kernel
theorem dX11_find_189 : decode cX11_find 189 = .ok (.aload_n 0, 1) := by decide +kernel
theorem dX11_find_190 : decode cX11_find 190 = .ok (.lload_n 3, 1) := by decide +kernel
theorem dX11_find_191 : decode cX11_find 191 = .ok (.lconst 1, 1) := by decide +kernel
theorem dX11_find_192 : decode cX11_find 192 = .ok (.ladd, 1) := by decide +kernel
theorem dX11_find_193 : decode cX11_find 193 = .ok (.iload_n 1, 1) := by decide +kernel
theorem dX11_find_194 : decode cX11_find 194 = .ok (.invokestatic 105, 3) := by decide +kernel
theorem dX11_find_197 : decode cX11_find 197 = .ok (.putfield 189, 3) := by decide +kernel
theorem dX11_find_200 : decode cX11_find 200 = .ok (.aload_n 0, 1) := by decide +kernel
theorem dX11_find_201 : decode cX11_find 201 = .ok (.iload 7, 2) := by decide +kernel
theorem dX11_find_203 : decode cX11_find 203 = .ok (.aload_n 0, 1) := by decide +kernel
theorem dX11_find_204 : decode cX11_find 204 = .ok (.getfield 189, 3) := by decide +kernel
theorem dX11_find_207 : decode cX11_find 207 = .ok (.lconst 0, 1) := by decide +kernel
theorem dX11_find_208 : decode cX11_find 208 = .ok (.lcmp, 1) := by decide +kernel
theorem dX11_find_209 : decode cX11_find 209 = .ok (.ifCond .ne 7, 3) := by decide +kernel
theorem dX11_find_212 : decode cX11_find 212 = .ok (.iconst 1, 1) := by decide +kernel
theorem dX11_find_213 : decode cX11_find 213 = .ok (.goto 4, 3) := by decide +kernel
theorem dX11_find_216 : decode cX11_find 216 = .ok (.iconst 0, 1) := by decide +kernel
theorem dX11_find_217 : decode cX11_find 217 = .ok (.iadd, 1) := by decide +kernel
theorem dX11_find_218 : decode cX11_find 218 = .ok (.putfield 192, 3) := by decide +kernel
theorem dX11_find_221 : decode cX11_find 221 = .ok (.return_, 1) := by decide +kernel
theorem dX11_plainQuotient_0 : decode cX11_plainQuotient 0 = .ok (.aload_n 0, 1) := by decide +kernel
theorem dX11_plainQuotient_1 : decode cX11_plainQuotient 1 = .ok (.getfield 7, 3) := by decide +kernel
theorem dX11_plainQuotient_4 : decode cX11_plainQuotient 4 = .ok (.iload_n 1, 1) := by decide +kernel
theorem dX11_plainQuotient_5 : decode cX11_plainQuotient 5 = .ok (.iaload, 1) := by decide +kernel
theorem dX11_plainQuotient_6 : decode cX11_plainQuotient 6 = .ok (.istore_n 3, 1) := by decide +kernel
theorem dX11_plainQuotient_7 : decode cX11_plainQuotient 7 = .ok (.aload_n 0, 1) := by decide +kernel
theorem dX11_plainQuotient_8 : decode cX11_plainQuotient 8 = .ok (.getfield 177, 3) := by decide +kernel
theorem dX11_plainQuotient_11 : decode cX11_plainQuotient 11 = .ok (.lconst 1, 1) := by decide +kernel
theorem dX11_plainQuotient_12 : decode cX11_plainQuotient 12 = .ok (.lcmp, 1) := by decide +kernel
theorem dX11_plainQuotient_13 : decode cX11_plainQuotient 13 = .ok (.ifCond .ne 16, 3) := by decide +kernel
theorem dX11_plainQuotient_16 : decode cX11_plainQuotient 16 = .ok (.aload_n 0, 1) := by decide +kernel
theorem dX11_plainQuotient_17 : decode cX11_plainQuotient 17 = .ok (.iload_n 1, 1) := by decide +kernel
theorem dX11_plainQuotient_18 : decode cX11_plainQuotient 18 = .ok (.iconst 0, 1) := by decide +kernel
theorem dX11_plainQuotient_19 : decode cX11_plainQuotient 19 = .ok (.iload_n 2, 1) := by decide +kernel
theorem dX11_plainQuotient_20 : decode cX11_plainQuotient 20 = .ok (.aload_n 0, 1) := by decide +kernel
theorem dX11_plainQuotient_21 : decode cX11_plainQuotient 21 = .ok (.getfield 174, 3) := by decide +kernel
theorem dX11_plainQuotient_24 : decode cX11_plainQuotient 24 = .ok (.i2l, 1) := by decide +kernel
theorem dX11_plainQuotient_25 : decode cX11_plainQuotient 25 = .ok (.invokevirtual 167, 3) := by decide +kernel
theorem dX11_plainQuotient_28 : decode cX11_plainQuotient 28 = .ok (.ireturn, 1) := by decide +kernel
theorem dX11_plainQuotient_29 : decode cX11_plainQuotient 29 = .ok (.aload_n 0, 1) := by decide +kernel
theorem dX11_plainQuotient_30 : decode cX11_plainQuotient 30 = .ok (.iload_n 3, 1) := by decide +kernel
theorem dX11_plainQuotient_31 : decode cX11_plainQuotient 31 = .ok (.iconst 0, 1) := by decide +kernel
theorem dX11_plainQuotient_32 : decode cX11_plainQuotient 32 = .ok (.invokevirtual 195, 3) := by decide +kernel
theorem dX11_plainQuotient_35 : decode cX11_plainQuotient 35 = .ok (.aload_n 0, 1) := by decide +kernel
theorem dX11_plainQuotient_36 : decode cX11_plainQuotient 36 = .ok (.iload_n 1, 1) := by decide +kernel
theorem dX11_plainQuotient_37 : decode cX11_plainQuotient 37 = .ok (.iconst 2, 1) := by decide +kernel
theorem dX11_plainQuotient_38 : decode cX11_plainQuotient 38 = .ok (.iload_n 2, 1) := by decide +kernel
theorem dX11_plainQuotient_39 : decode cX11_plainQuotient 39 = .ok (.aload_n 0, 1) := by decide +kernel
theorem dX11_plainQuotient_40 : decode cX11_plainQuotient 40 = .ok (.getfield 189, 3) := by decide +kernel
theorem dX11_plainQuotient_43 : decode cX11_plainQuotient 43 = .ok (.invokevirtual 167, 3) := by decide +kernel
theorem dX11_plainQuotient_46 : decode cX11_plainQuotient 46 = .ok (.istore 4, 2) := by decide +kernel
theorem dX11_plainQuotient_48 : decode cX11_plainQuotient 48 = .ok (.aload_n 0, 1) := by decide +kernel
theorem dX11_plainQuotient_49 : decode cX11_plainQuotient 49 = .ok (.getfield 192, 3) := by decide +kernel
