theorem dX11_inverse_26 : decode cX11_inverse 26 = .ok (.lconst 0, 1) := by decide +kernel
theorem dX11_inverse_27 : decode cX11_inverse 27 = .ok (.lreturn, 1) := by decide +kernel
theorem dX11_tell_0 : decode cX11_tell 0 = .ok (.iload_n 1, 1) := by decide +kernel
theorem dX11_tell_1 : decode cX11_tell 1 = .ok (.ifCond .lt 8, 3) := by decide +kernel
theorem dX11_tell_4 : decode cX11_tell 4 = .ok (.iload_n 1, 1) := by decide +kernel
theorem dX11_tell_5 : decode cX11_tell 5 = .ok (.iconst 3, 1) := by decide +kernel
theorem dX11_tell_6 : decode cX11_tell 6 = .ok (.if_icmp .le 5, 3) := by decide +kernel
theorem dX11_tell_9 : decode cX11_tell 9 = .ok (.lconst 0, 1) := by decide +kernel
theorem dX11_tell_10 : decode cX11_tell 10 = .ok (.lreturn, 1) := by decide +kernel
theorem dX11_tell_11 : decode cX11_tell 11 = .ok (.aload_n 0, 1) := by decide +kernel
theorem dX11_tell_12 : decode cX11_tell 12 = .ok (.getfield 56, 3) := by decide +kernel
theorem dX11_tell_15 : decode cX11_tell 15 = .ok (.iload_n 1, 1) := by decide +kernel
theorem dX11_tell_16 : decode cX11_tell 16 = .ok (.laload, 1) := by decide +kernel
theorem dX11_tell_17 : decode cX11_tell 17 = .ok (.lstore 4, 2) := by decide +kernel
theorem dX11_tell_19 : decode cX11_tell 19 = .ok (.aload_n 0, 1) := by decide +kernel
theorem dX11_tell_20 : decode cX11_tell 20 = .ok (.getfield 56, 3) := by decide +kernel
theorem dX11_tell_23 : decode cX11_tell 23 = .ok (.iload_n 1, 1) := by decide +kernel
theorem dX11_tell_24 : decode cX11_tell 24 = .ok (.lload_n 2, 1) := by decide +kernel
theorem dX11_tell_25 : decode cX11_tell 25 = .ok (.lastore, 1) := by decide +kernel
theorem dX11_tell_26 : decode cX11_tell 26 = .ok (.aload_n 0, 1) := by decide +kernel
theorem dX11_tell_27 : decode cX11_tell 27 = .ok (.iconst 4, 1) := by decide +kernel
theorem dX11_tell_28 : decode cX11_tell 28 = .ok (.iload_n 1, 1) := by decide +kernel
theorem dX11_tell_29 : decode cX11_tell 29 = .ok (.iconst 0, 1) := by decide +kernel
theorem dX11_tell_30 : decode cX11_tell 30 = .ok (.lload 4, 2) := by decide +kernel
theorem dX11_tell_32 : decode cX11_tell 32 = .ok (.invokevirtual 160, 3) := by decide +kernel
theorem dX11_tell_35 : decode cX11_tell 35 = .ok (.lload 4, 2) := by decide +kernel
theorem dX11_tell_37 : decode cX11_tell 37 = .ok (.lreturn, 1) := by decide +kernel
theorem dX11_mayBe_0 : decode cX11_mayBe 0 = .ok (.aload_n 0, 1) := by decide +kernel
theorem dX11_mayBe_1 : decode cX11_mayBe 1 = .ok (.getfield 56, 3) := by decide +kernel
theorem dX11_mayBe_4 : decode cX11_mayBe 4 = .ok (.iload_n 2, 1) := by decide +kernel
theorem dX11_mayBe_5 : decode cX11_mayBe 5 = .ok (.laload, 1) := by decide +kernel
theorem dX11_mayBe_6 : decode cX11_mayBe 6 = .ok (.ldc2_w 261, 3) := by decide +kernel
theorem dX11_mayBe_9 : decode cX11_mayBe 9 = .ok (.land, 1) := by decide +kernel
theorem dX11_mayBe_10 : decode cX11_mayBe 10 = .ok (.lstore_n 3, 1) := by decide +kernel
theorem dX11_mayBe_11 : decode cX11_mayBe 11 = .ok (.iload_n 1, 1) := by decide +kernel
theorem dX11_mayBe_12 : decode cX11_mayBe 12 = .ok (.invokestatic 140, 3) := by decide +kernel
theorem dX11_mayBe_15 : decode cX11_mayBe 15 = .ok (.ifCond .eq 13, 3) := by decide +kernel
theorem dX11_mayBe_18 : decode cX11_mayBe 18 = .ok (.lload_n 3, 1) := by decide +kernel
theorem dX11_mayBe_19 : decode cX11_mayBe 19 = .ok (.ldc2_w 263, 3) := by decide +kernel
theorem dX11_mayBe_22 : decode cX11_mayBe 22 = .ok (.lcmp, 1) := by decide +kernel
theorem dX11_mayBe_23 : decode cX11_mayBe 23 = .ok (.ifCond .le 5, 3) := by decide +kernel
theorem dX11_mayBe_26 : decode cX11_mayBe 26 = .ok (.iconst 0, 1) := by decide +kernel
theorem dX11_mayBe_27 : decode cX11_mayBe 27 = .ok (.ireturn, 1) := by decide +kernel
theorem dX11_mayBe_28 : decode cX11_mayBe 28 = .ok (.iconst 0, 1) := by decide +kernel
theorem dX11_mayBe_29 : decode cX11_mayBe 29 = .ok (.istore 5, 2) := by decide +kernel
theorem dX11_mayBe_31 : decode cX11_mayBe 31 = .ok (.iload 5, 2) := by decide +kernel
theorem dX11_mayBe_33 : decode cX11_mayBe 33 = .ok (.iload_n 2, 1) := by decide +kernel
theorem dX11_mayBe_34 : decode cX11_mayBe 34 = .ok (.if_icmp .ge 27, 3) := by decide +kernel
theorem dX11_mayBe_37 : decode cX11_mayBe 37 = .ok (.aload_n 0, 1) := by decide +kernel
theorem dX11_mayBe_38 : decode cX11_mayBe 38 = .ok (.getfield 56, 3) := by decide +kernel
theorem dX11_mayBe_41 : decode cX11_mayBe 41 = .ok (.iload 5, 2) := by decide +kernel
theorem dX11_mayBe_43 : decode cX11_mayBe 43 = .ok (.laload, 1) := by decide +kernel
theorem dX11_mayBe_44 : decode cX11_mayBe 44 = .ok (.ldc2_w 261, 3) := by decide +kernel
theorem dX11_mayBe_47 : decode cX11_mayBe 47 = .ok (.land, 1) := by decide +kernel
theorem dX11_mayBe_48 : decode cX11_mayBe 48 = .ok (.lload_n 3, 1) := by decide +kernel
theorem dX11_mayBe_49 : decode cX11_mayBe 49 = .ok (.lcmp, 1) := by decide +kernel
theorem dX11_mayBe_50 : decode cX11_mayBe 50 = .ok (.ifCond .ne 5, 3) := by decide +kernel
theorem dX11_mayBe_53 : decode cX11_mayBe 53 = .ok (.iconst 0, 1) := by decide +kernel
theorem dX11_mayBe_54 : decode cX11_mayBe 54 = .ok (.ireturn, 1) := by decide +kernel
theorem dX11_mayBe_55 : decode cX11_mayBe 55 = .ok (.iinc 5 1, 3) := by decide +kernel
theorem dX11_mayBe_58 : decode cX11_mayBe 58 = .ok (.goto (-27), 3) := by decide +kernel
theorem dX11_mayBe_61 : decode cX11_mayBe 61 = .ok (.iconst 1, 1) := by decide +kernel
theorem dX11_mayBe_62 : decode cX11_mayBe 62 = .ok (.ireturn, 1) := by decide +kernel
theorem dX11_yOf_0 : decode cX11_yOf 0 = .ok (.iload_n 1, 1) := by decide +kernel
theorem dX11_yOf_1 : decode cX11_yOf 1 = .ok (.invokestatic 132, 3) := by decide +kernel
theorem dX11_yOf_4 : decode cX11_yOf 4 = .ok (.ifCond .eq 8, 3) := by decide +kernel
theorem dX11_yOf_7 : decode cX11_yOf 7 = .ok (.iload_n 2, 1) := by decide +kernel
theorem dX11_yOf_8 : decode cX11_yOf 8 = .ok (.i2l, 1) := by decide +kernel
theorem dX11_yOf_9 : decode cX11_yOf 9 = .ok (.goto 13, 3) := by decide +kernel
theorem dX11_yOf_12 : decode cX11_yOf 12 = .ok (.aload_n 0, 1) := by decide +kernel
theorem dX11_yOf_13 : decode cX11_yOf 13 = .ok (.getfield 56, 3) := by decide +kernel
theorem dX11_yOf_16 : decode cX11_yOf 16 = .ok (.iload_n 2, 1) := by decide +kernel
theorem dX11_yOf_17 : decode cX11_yOf 17 = .ok (.laload, 1) := by decide +kernel
theorem dX11_yOf_18 : decode cX11_yOf 18 = .ok (.ldc2_w 261, 3) := by decide +kernel
theorem dX11_yOf_21 : decode cX11_yOf 21 = .ok (.land, 1) := by decide +kernel
theorem dX11_yOf_22 : decode cX11_yOf 22 = .ok (.lreturn, 1) := by decide +kernel
theorem dX11_tryStep_0 : decode cX11_tryStep 0 = .ok (.iload_n 1, 1) := by decide +kernel
theorem dX11_tryStep_1 : decode cX11_tryStep 1 = .ok (.iload_n 2, 1) := by decide +kernel
theorem dX11_tryStep_2 : decode cX11_tryStep 2 = .ok (.iconst 1, 1) := by decide +kernel
theorem dX11_tryStep_3 : decode cX11_tryStep 3 = .ok (.isub, 1) := by decide +kernel
theorem dX11_tryStep_4 : decode cX11_tryStep 4 = .ok (.if_icmp .ne 7, 3) := by decide +kernel
theorem dX11_tryStep_7 : decode cX11_tryStep 7 = .ok (.iconst 1, 1) := by decide +kernel
theorem dX11_tryStep_8 : decode cX11_tryStep 8 = .ok (.goto 4, 3) := by decide +kernel
theorem dX11_tryStep_11 : decode cX11_tryStep 11 = .ok (.iconst 0, 1) := by decide +kernel
theorem dX11_tryStep_12 : decode cX11_tryStep 12 = .ok (.istore 4, 2) := by decide +kernel
theorem dX11_tryStep_14 : decode cX11_tryStep 14 = .ok (.iconst 0, 1) := by decide +kernel
theorem dX11_tryStep_15 : decode cX11_tryStep 15 = .ok (.istore 5, 2) := by decide +kernel
theorem dX11_tryStep_17 : decode cX11_tryStep 17 = .ok (.iload 5, 2) := by decide +kernel
theorem dX11_tryStep_19 : decode cX11_tryStep 19 = .ok (.bipush 13, 2) := by decide +kernel
theorem dX11_tryStep_21 : decode cX11_tryStep 21 = .ok (.if_icmp .ge 171, 3) := by decide +kernel
theorem dX11_tryStep_24 : decode cX11_tryStep 24 = .ok (.iload_n 3, 1) := by decide +kernel
theorem dX11_tryStep_25 : decode cX11_tryStep 25 = .ok (.aload_n 0, 1) := by decide +kernel
theorem dX11_tryStep_26 : decode cX11_tryStep 26 = .ok (.getfield 26, 3) := by decide +kernel
theorem dX11_tryStep_29 : decode cX11_tryStep 29 = .ok (.iload 5, 2) := by decide +kernel
theorem dX11_tryStep_31 : decode cX11_tryStep 31 = .ok (.iaload, 1) := by decide +kernel
theorem dX11_tryStep_32 : decode cX11_tryStep 32 = .ok (.iadd, 1) := by decide +kernel
theorem dX11_tryStep_33 : decode cX11_tryStep 33 = .ok (.istore 6, 2) := by decide +kernel
theorem dX11_tryStep_35 : decode cX11_tryStep 35 = .ok (.iload 6, 2) := by decide +kernel
theorem dX11_tryStep_37 : decode cX11_tryStep 37 = .ok (.aload_n 0, 1) := by decide +kernel
theorem dX11_tryStep_38 : decode cX11_tryStep 38 = .ok (.getfield 265, 3) := by decide +kernel
theorem dX11_tryStep_41 : decode cX11_tryStep 41 = .ok (.if_icmp .lt 6, 3) := by decide +kernel
theorem dX11_tryStep_44 : decode cX11_tryStep 44 = .ok (.goto 142, 3) := by decide +kernel
theorem dX11_tryStep_47 : decode cX11_tryStep 47 = .ok (.iconst 0, 1) := by decide +kernel
theorem dX11_tryStep_48 : decode cX11_tryStep 48 = .ok (.istore 7, 2) := by decide +kernel
theorem dX11_tryStep_50 : decode cX11_tryStep 50 = .ok (.iload 7, 2) := by decide +kernel
theorem dX11_tryStep_52 : decode cX11_tryStep 52 = .ok (.iload_n 1, 1) := by decide +kernel
theorem dX11_tryStep_53 : decode cX11_tryStep 53 = .ok (.if_icmp .gt 133, 3) := by decide +kernel
theorem dX11_tryStep_56 : decode cX11_tryStep 56 = .ok (.iload 5, 2) := by decide +kernel
theorem dX11_tryStep_58 : decode cX11_tryStep 58 = .ok (.invokestatic 132, 3) := by decide +kernel
theorem dX11_tryStep_61 : decode cX11_tryStep 61 = .ok (.ifCond .eq 7, 3) := by decide +kernel
theorem dX11_tryStep_64 : decode cX11_tryStep 64 = .ok (.iload_n 1, 1) := by decide +kernel
theorem dX11_tryStep_65 : decode cX11_tryStep 65 = .ok (.goto 4, 3) := by decide +kernel
theorem dX11_tryStep_68 : decode cX11_tryStep 68 = .ok (.iconst 3, 1) := by decide +kernel
theorem dX11_tryStep_69 : decode cX11_tryStep 69 = .ok (.istore 8, 2) := by decide +kernel
theorem dX11_tryStep_71 : decode cX11_tryStep 71 = .ok (.iconst 0, 1) := by decide +kernel
theorem dX11_tryStep_72 : decode cX11_tryStep 72 = .ok (.istore 9, 2) := by decide +kernel
theorem dX11_tryStep_74 : decode cX11_tryStep 74 = .ok (.iload 9, 2) := by decide +kernel
theorem dX11_tryStep_76 : decode cX11_tryStep 76 = .ok (.iload 8, 2) := by decide +kernel
theorem dX11_tryStep_78 : decode cX11_tryStep 78 = .ok (.if_icmp .gt 102, 3) := by decide +kernel
theorem dX11_tryStep_81 : decode cX11_tryStep 81 = .ok (.iload 5, 2) := by decide +kernel
theorem dX11_tryStep_83 : decode cX11_tryStep 83 = .ok (.invokestatic 132, 3) := by decide +kernel
theorem dX11_tryStep_86 : decode cX11_tryStep 86 = .ok (.ifCond .ne 17, 3) := by decide +kernel
theorem dX11_tryStep_89 : decode cX11_tryStep 89 = .ok (.aload_n 0, 1) := by decide +kernel
theorem dX11_tryStep_90 : decode cX11_tryStep 90 = .ok (.iload 5, 2) := by decide +kernel
theorem dX11_tryStep_92 : decode cX11_tryStep 92 = .ok (.iload 9, 2) := by decide +kernel
theorem dX11_tryStep_94 : decode cX11_tryStep 94 = .ok (.invokevirtual 268, 3) := by decide +kernel
theorem dX11_tryStep_97 : decode cX11_tryStep 97 = .ok (.ifCond .ne 6, 3) := by decide +kernel
theorem dX11_tryStep_100 : decode cX11_tryStep 100 = .ok (.goto 74, 3) := by decide +kernel
theorem dX11_tryStep_103 : decode cX11_tryStep 103 = .ok (.aload_n 0, 1) := by decide +kernel
theorem dX11_tryStep_104 : decode cX11_tryStep 104 = .ok (.getfield 69, 3) := by decide +kernel
theorem dX11_tryStep_107 : decode cX11_tryStep 107 = .ok (.iload_n 1, 1) := by decide +kernel
theorem dX11_tryStep_108 : decode cX11_tryStep 108 = .ok (.iload 5, 2) := by decide +kernel
theorem dX11_tryStep_110 : decode cX11_tryStep 110 = .ok (.iastore, 1) := by decide +kernel
theorem dX11_tryStep_111 : decode cX11_tryStep 111 = .ok (.aload_n 0, 1) := by decide +kernel
theorem dX11_tryStep_112 : decode cX11_tryStep 112 = .ok (.getfield 72, 3) := by decide +kernel
theorem dX11_tryStep_115 : decode cX11_tryStep 115 = .ok (.iload_n 1, 1) := by decide +kernel
theorem dX11_tryStep_116 : decode cX11_tryStep 116 = .ok (.iload 7, 2) := by decide +kernel
theorem dX11_tryStep_118 : decode cX11_tryStep 118 = .ok (.iastore, 1) := by decide +kernel
theorem dX11_tryStep_119 : decode cX11_tryStep 119 = .ok (.aload_n 0, 1) := by decide +kernel
theorem dX11_tryStep_120 : decode cX11_tryStep 120 = .ok (.getfield 75, 3) := by decide +kernel
theorem dX11_tryStep_123 : decode cX11_tryStep 123 = .ok (.iload_n 1, 1) := by decide +kernel
theorem dX11_tryStep_124 : decode cX11_tryStep 124 = .ok (.iload 9, 2) := by decide +kernel
theorem dX11_tryStep_126 : decode cX11_tryStep 126 = .ok (.iastore, 1) := by decide +kernel
theorem dX11_tryStep_127 : decode cX11_tryStep 127 = .ok (.iload 6, 2) := by decide +kernel
theorem dX11_tryStep_129 : decode cX11_tryStep 129 = .ok (.aload_n 0, 1) := by decide +kernel
theorem dX11_tryStep_130 : decode cX11_tryStep 130 = .ok (.getfield 265, 3) := by decide +kernel
theorem dX11_tryStep_133 : decode cX11_tryStep 133 = .ok (.if_icmp .lt 6, 3) := by decide +kernel
theorem dX11_tryStep_136 : decode cX11_tryStep 136 = .ok (.goto 38, 3) := by decide +kernel
theorem dX11_tryStep_139 : decode cX11_tryStep 139 = .ok (.iload 4, 2) := by decide +kernel
theorem dX11_tryStep_141 : decode cX11_tryStep 141 = .ok (.ifCond .eq 13, 3) := by decide +kernel
theorem dX11_tryStep_144 : decode cX11_tryStep 144 = .ok (.aload_n 0, 1) := by decide +kernel
theorem dX11_tryStep_145 : decode cX11_tryStep 145 = .ok (.iload_n 1, 1) := by decide +kernel
theorem dX11_tryStep_146 : decode cX11_tryStep 146 = .ok (.iload 6, 2) := by decide +kernel
theorem dX11_tryStep_148 : decode cX11_tryStep 148 = .ok (.invokevirtual 272, 3) := by decide +kernel
theorem dX11_tryStep_151 : decode cX11_tryStep 151 = .ok (.goto 8, 3) := by decide +kernel
theorem dX11_tryStep_154 : decode cX11_tryStep 154 = .ok (.aload_n 0, 1) := by decide +kernel
theorem dX11_tryStep_155 : decode cX11_tryStep 155 = .ok (.iload_n 1, 1) := by decide +kernel
theorem dX11_tryStep_156 : decode cX11_tryStep 156 = .ok (.invokevirtual 275, 3) := by decide +kernel
theorem dX11_tryStep_159 : decode cX11_tryStep 159 = .ok (.iload 4, 2) := by decide +kernel
theorem dX11_tryStep_161 : decode cX11_tryStep 161 = .ok (.ifCond .ne 13, 3) := by decide +kernel
theorem dX11_tryStep_164 : decode cX11_tryStep 164 = .ok (.aload_n 0, 1) := by decide +kernel
theorem dX11_tryStep_165 : decode cX11_tryStep 165 = .ok (.iload_n 1, 1) := by decide +kernel
theorem dX11_tryStep_166 : decode cX11_tryStep 166 = .ok (.iconst 1, 1) := by decide +kernel
theorem dX11_tryStep_167 : decode cX11_tryStep 167 = .ok (.iadd, 1) := by decide +kernel
theorem dX11_tryStep_168 : decode cX11_tryStep 168 = .ok (.iload_n 2, 1) := by decide +kernel
theorem dX11_tryStep_169 : decode cX11_tryStep 169 = .ok (.iload 6, 2) := by decide +kernel
theorem dX11_tryStep_171 : decode cX11_tryStep 171 = .ok (.invokevirtual 278, 3) := by decide +kernel
theorem dX11_tryStep_174 : decode cX11_tryStep 174 = .ok (.iinc 9 1, 3) := by decide +kernel
theorem dX11_tryStep_177 : decode cX11_tryStep 177 = .ok (.goto (-103), 3) := by decide +kernel
theorem dX11_tryStep_180 : decode cX11_tryStep 180 = .ok (.iinc 7 1, 3) := by decide +kernel
theorem dX11_tryStep_183 : decode cX11_tryStep 183 = .ok (.goto (-133), 3) := by decide +kernel
theorem dX11_tryStep_186 : decode cX11_tryStep 186 = .ok (.iinc 5 1, 3) := by decide +kernel
theorem dX11_tryStep_189 : decode cX11_tryStep 189 = .ok (.goto (-172), 3) := by decide +kernel
theorem dX11_tryStep_192 : decode cX11_tryStep 192 = .ok (.return_, 1) := by decide +kernel
theorem dX11_madeBy_0 : decode cX11_madeBy 0 = .ok (.aload_n 0, 1) := by decide +kernel
theorem dX11_madeBy_1 : decode cX11_madeBy 1 = .ok (.getfield 69, 3) := by decide +kernel
theorem dX11_madeBy_4 : decode cX11_madeBy 4 = .ok (.iload_n 1, 1) := by decide +kernel
theorem dX11_madeBy_5 : decode cX11_madeBy 5 = .ok (.iaload, 1) := by decide +kernel
theorem dX11_madeBy_6 : decode cX11_madeBy 6 = .ok (.invokestatic 132, 3) := by decide +kernel
theorem dX11_madeBy_9 : decode cX11_madeBy 9 = .ok (.ifCond .eq 24, 3) := by decide +kernel
theorem dX11_madeBy_12 : decode cX11_madeBy 12 = .ok (.aload_n 0, 1) := by decide +kernel
theorem dX11_madeBy_13 : decode cX11_madeBy 13 = .ok (.getfield 59, 3) := by decide +kernel
theorem dX11_madeBy_16 : decode cX11_madeBy 16 = .ok (.sipush 256, 3) := by decide +kernel
theorem dX11_madeBy_19 : decode cX11_madeBy 19 = .ok (.aload_n 0, 1) := by decide +kernel
theorem dX11_madeBy_20 : decode cX11_madeBy 20 = .ok (.getfield 75, 3) := by decide +kernel
theorem dX11_madeBy_23 : decode cX11_madeBy 23 = .ok (.iload_n 1, 1) := by decide +kernel
theorem dX11_madeBy_24 : decode cX11_madeBy 24 = .ok (.iaload, 1) := by decide +kernel
theorem dX11_madeBy_25 : decode cX11_madeBy 25 = .ok (.imul, 1) := by decide +kernel
theorem dX11_madeBy_26 : decode cX11_madeBy 26 = .ok (.iload_n 2, 1) := by decide +kernel
theorem dX11_madeBy_27 : decode cX11_madeBy 27 = .ok (.iadd, 1) := by decide +kernel
theorem dX11_madeBy_28 : decode cX11_madeBy 28 = .ok (.iaload, 1) := by decide +kernel
theorem dX11_madeBy_29 : decode cX11_madeBy 29 = .ok (.i2l, 1) := by decide +kernel
theorem dX11_madeBy_30 : decode cX11_madeBy 30 = .ok (.goto 18, 3) := by decide +kernel
theorem dX11_madeBy_33 : decode cX11_madeBy 33 = .ok (.aload_n 0, 1) := by decide +kernel
theorem dX11_madeBy_34 : decode cX11_madeBy 34 = .ok (.getfield 56, 3) := by decide +kernel
theorem dX11_madeBy_37 : decode cX11_madeBy 37 = .ok (.aload_n 0, 1) := by decide +kernel
theorem dX11_madeBy_38 : decode cX11_madeBy 38 = .ok (.getfield 75, 3) := by decide +kernel
theorem dX11_madeBy_41 : decode cX11_madeBy 41 = .ok (.iload_n 1, 1) := by decide +kernel
theorem dX11_madeBy_42 : decode cX11_madeBy 42 = .ok (.iaload, 1) := by decide +kernel
theorem dX11_madeBy_43 : decode cX11_madeBy 43 = .ok (.laload, 1) := by decide +kernel
theorem dX11_madeBy_44 : decode cX11_madeBy 44 = .ok (.ldc2_w 261, 3) := by decide +kernel
theorem dX11_madeBy_47 : decode cX11_madeBy 47 = .ok (.land, 1) := by decide +kernel
theorem dX11_madeBy_48 : decode cX11_madeBy 48 = .ok (.lstore_n 3, 1) := by decide +kernel
theorem dX11_madeBy_49 : decode cX11_madeBy 49 = .ok (.aload_n 0, 1) := by decide +kernel
theorem dX11_madeBy_50 : decode cX11_madeBy 50 = .ok (.getfield 69, 3) := by decide +kernel
theorem dX11_madeBy_53 : decode cX11_madeBy 53 = .ok (.iload_n 1, 1) := by decide +kernel
theorem dX11_madeBy_54 : decode cX11_madeBy 54 = .ok (.iaload, 1) := by decide +kernel
theorem dX11_madeBy_55 : decode cX11_madeBy 55 = .ok (.aload_n 0, 1) := by decide +kernel
theorem dX11_madeBy_56 : decode cX11_madeBy 56 = .ok (.getfield 59, 3) := by decide +kernel
theorem dX11_madeBy_59 : decode cX11_madeBy 59 = .ok (.sipush 256, 3) := by decide +kernel
theorem dX11_madeBy_62 : decode cX11_madeBy 62 = .ok (.aload_n 0, 1) := by decide +kernel
theorem dX11_madeBy_63 : decode cX11_madeBy 63 = .ok (.getfield 72, 3) := by decide +kernel
theorem dX11_madeBy_66 : decode cX11_madeBy 66 = .ok (.iload_n 1, 1) := by decide +kernel
theorem dX11_madeBy_67 : decode cX11_madeBy 67 = .ok (.iaload, 1) := by decide +kernel
theorem dX11_madeBy_68 : decode cX11_madeBy 68 = .ok (.imul, 1) := by decide +kernel
theorem dX11_madeBy_69 : decode cX11_madeBy 69 = .ok (.iload_n 2, 1) := by decide +kernel
theorem dX11_madeBy_70 : decode cX11_madeBy 70 = .ok (.iadd, 1) := by decide +kernel
theorem dX11_madeBy_71 : decode cX11_madeBy 71 = .ok (.iaload, 1) := by decide +kernel
theorem dX11_madeBy_72 : decode cX11_madeBy 72 = .ok (.i2l, 1) := by decide +kernel
theorem dX11_madeBy_73 : decode cX11_madeBy 73 = .ok (.lload_n 3, 1) := by decide +kernel
theorem dX11_madeBy_74 : decode cX11_madeBy 74 = .ok (.bipush 8, 2) := by decide +kernel
theorem dX11_madeBy_76 : decode cX11_madeBy 76 = .ok (.invokestatic 136, 3) := by decide +kernel
theorem dX11_madeBy_79 : decode cX11_madeBy 79 = .ok (.l2i, 1) := by decide +kernel
theorem dX11_madeBy_80 : decode cX11_madeBy 80 = .ok (.ireturn, 1) := by decide +kernel
theorem dX11_fill_0 : decode cX11_fill 0 = .ok (.iconst 0, 1) := by decide +kernel
theorem dX11_fill_1 : decode cX11_fill 1 = .ok (.istore_n 2, 1) := by decide +kernel
theorem dX11_fill_2 : decode cX11_fill 2 = .ok (.iload_n 2, 1) := by decide +kernel
theorem dX11_fill_3 : decode cX11_fill 3 = .ok (.sipush 256, 3) := by decide +kernel
theorem dX11_fill_6 : decode cX11_fill 6 = .ok (.if_icmp .ge 29, 3) := by decide +kernel
theorem dX11_fill_9 : decode cX11_fill 9 = .ok (.aload_n 0, 1) := by decide +kernel
theorem dX11_fill_10 : decode cX11_fill 10 = .ok (.getfield 59, 3) := by decide +kernel
theorem dX11_fill_13 : decode cX11_fill 13 = .ok (.sipush 256, 3) := by decide +kernel
theorem dX11_fill_16 : decode cX11_fill 16 = .ok (.iload_n 1, 1) := by decide +kernel
theorem dX11_fill_17 : decode cX11_fill 17 = .ok (.iconst 1, 1) := by decide +kernel
theorem dX11_fill_18 : decode cX11_fill 18 = .ok (.iadd, 1) := by decide +kernel
theorem dX11_fill_19 : decode cX11_fill 19 = .ok (.imul, 1) := by decide +kernel
theorem dX11_fill_20 : decode cX11_fill 20 = .ok (.iload_n 2, 1) := by decide +kernel
theorem dX11_fill_21 : decode cX11_fill 21 = .ok (.iadd, 1) := by decide +kernel
theorem dX11_fill_22 : decode cX11_fill 22 = .ok (.aload_n 0, 1) := by decide +kernel
theorem dX11_fill_23 : decode cX11_fill 23 = .ok (.iload_n 1, 1) := by decide +kernel
theorem dX11_fill_24 : decode cX11_fill 24 = .ok (.iload_n 2, 1) := by decide +kernel
theorem dX11_fill_25 : decode cX11_fill 25 = .ok (.invokevirtual 282, 3) := by decide +kernel
theorem dX11_fill_28 : decode cX11_fill 28 = .ok (.iastore, 1) := by decide +kernel
theorem dX11_fill_29 : decode cX11_fill 29 = .ok (.iinc 2 1, 3) := by decide +kernel
theorem dX11_fill_32 : decode cX11_fill 32 = .ok (.goto (-30), 3) := by decide +kernel
theorem dX11_fill_35 : decode cX11_fill 35 = .ok (.return_, 1) := by decide +kernel
theorem dX11_look_0 : decode cX11_look 0 = .ok (.iconst 0, 1) := by decide +kernel
theorem dX11_look_1 : decode cX11_look 1 = .ok (.istore_n 3, 1) := by decide +kernel
theorem dX11_look_2 : decode cX11_look 2 = .ok (.iload_n 3, 1) := by decide +kernel
theorem dX11_look_3 : decode cX11_look 3 = .ok (.sipush 256, 3) := by decide +kernel
theorem dX11_look_6 : decode cX11_look 6 = .ok (.if_icmp .ge 34, 3) := by decide +kernel
theorem dX11_look_9 : decode cX11_look 9 = .ok (.aload_n 0, 1) := by decide +kernel
theorem dX11_look_10 : decode cX11_look 10 = .ok (.getfield 65, 3) := by decide +kernel
theorem dX11_look_13 : decode cX11_look 13 = .ok (.iload_n 3, 1) := by decide +kernel
theorem dX11_look_14 : decode cX11_look 14 = .ok (.baload, 1) := by decide +kernel
theorem dX11_look_15 : decode cX11_look 15 = .ok (.ifCond .eq 19, 3) := by decide +kernel
theorem dX11_look_18 : decode cX11_look 18 = .ok (.aload_n 0, 1) := by decide +kernel
theorem dX11_look_19 : decode cX11_look 19 = .ok (.iload_n 1, 1) := by decide +kernel
theorem dX11_look_20 : decode cX11_look 20 = .ok (.iload_n 3, 1) := by decide +kernel
theorem dX11_look_21 : decode cX11_look 21 = .ok (.invokevirtual 282, 3) := by decide +kernel
theorem dX11_look_24 : decode cX11_look 24 = .ok (.aload_n 0, 1) := by decide +kernel
theorem dX11_look_25 : decode cX11_look 25 = .ok (.getfield 62, 3) := by decide +kernel
theorem dX11_look_28 : decode cX11_look 28 = .ok (.iload_n 3, 1) := by decide +kernel
theorem dX11_look_29 : decode cX11_look 29 = .ok (.iaload, 1) := by decide +kernel
theorem dX11_look_30 : decode cX11_look 30 = .ok (.if_icmp .eq 4, 3) := by decide +kernel
theorem dX11_look_33 : decode cX11_look 33 = .ok (.return_, 1) := by decide +kernel
theorem dX11_look_34 : decode cX11_look 34 = .ok (.iinc 3 1, 3) := by decide +kernel
theorem dX11_look_37 : decode cX11_look 37 = .ok (.goto (-35), 3) := by decide +kernel
theorem dX11_look_40 : decode cX11_look 40 = .ok (.aload_n 0, 1) := by decide +kernel
theorem dX11_look_41 : decode cX11_look 41 = .ok (.iload_n 2, 1) := by decide +kernel
theorem dX11_look_42 : decode cX11_look 42 = .ok (.putfield 265, 3) := by decide +kernel
theorem dX11_look_45 : decode cX11_look 45 = .ok (.aload_n 0, 1) := by decide +kernel
theorem dX11_look_46 : decode cX11_look 46 = .ok (.iload_n 1, 1) := by decide +kernel
theorem dX11_look_47 : decode cX11_look 47 = .ok (.iconst 1, 1) := by decide +kernel
theorem dX11_look_48 : decode cX11_look 48 = .ok (.iadd, 1) := by decide +kernel
theorem dX11_look_49 : decode cX11_look 49 = .ok (.putfield 285, 3) := by decide +kernel
theorem dX11_look_52 : decode cX11_look 52 = .ok (.iconst 0, 1) := by decide +kernel
theorem dX11_look_53 : decode cX11_look 53 = .ok (.istore_n 3, 1) := by decide +kernel
theorem dX11_look_54 : decode cX11_look 54 = .ok (.iload_n 3, 1) := by decide +kernel
theorem dX11_look_55 : decode cX11_look 55 = .ok (.iload_n 1, 1) := by decide +kernel
theorem dX11_look_56 : decode cX11_look 56 = .ok (.if_icmp .gt 55, 3) := by decide +kernel
theorem dX11_look_59 : decode cX11_look 59 = .ok (.aload_n 0, 1) := by decide +kernel
theorem dX11_look_60 : decode cX11_look 60 = .ok (.getfield 78, 3) := by decide +kernel
theorem dX11_look_63 : decode cX11_look 63 = .ok (.iload_n 3, 1) := by decide +kernel
theorem dX11_look_64 : decode cX11_look 64 = .ok (.aload_n 0, 1) := by decide +kernel
theorem dX11_look_65 : decode cX11_look 65 = .ok (.getfield 69, 3) := by decide +kernel
theorem dX11_look_68 : decode cX11_look 68 = .ok (.iload_n 3, 1) := by decide +kernel
theorem dX11_look_69 : decode cX11_look 69 = .ok (.iaload, 1) := by decide +kernel
theorem dX11_look_70 : decode cX11_look 70 = .ok (.iastore, 1) := by decide +kernel
theorem dX11_look_71 : decode cX11_look 71 = .ok (.aload_n 0, 1) := by decide +kernel
theorem dX11_look_72 : decode cX11_look 72 = .ok (.getfield 81, 3) := by decide +kernel
theorem dX11_look_75 : decode cX11_look 75 = .ok (.iload_n 3, 1) := by decide +kernel
theorem dX11_look_76 : decode cX11_look 76 = .ok (.aload_n 0, 1) := by decide +kernel
theorem dX11_look_77 : decode cX11_look 77 = .ok (.getfield 72, 3) := by decide +kernel
theorem dX11_look_80 : decode cX11_look 80 = .ok (.iload_n 3, 1) := by decide +kernel
theorem dX11_look_81 : decode cX11_look 81 = .ok (.iaload, 1) := by decide +kernel
theorem dX11_look_82 : decode cX11_look 82 = .ok (.iastore, 1) := by decide +kernel
theorem dX11_look_83 : decode cX11_look 83 = .ok (.aload_n 0, 1) := by decide +kernel
theorem dX11_look_84 : decode cX11_look 84 = .ok (.getfield 84, 3) := by decide +kernel
theorem dX11_look_87 : decode cX11_look 87 = .ok (.iload_n 3, 1) := by decide +kernel
theorem dX11_look_88 : decode cX11_look 88 = .ok (.aload_n 0, 1) := by decide +kernel
theorem dX11_look_89 : decode cX11_look 89 = .ok (.aload_n 0, 1) := by decide +kernel
theorem dX11_look_90 : decode cX11_look 90 = .ok (.getfield 69, 3) := by decide +kernel
theorem dX11_look_93 : decode cX11_look 93 = .ok (.iload_n 3, 1) := by decide +kernel
theorem dX11_look_94 : decode cX11_look 94 = .ok (.iaload, 1) := by decide +kernel
theorem dX11_look_95 : decode cX11_look 95 = .ok (.aload_n 0, 1) := by decide +kernel
theorem dX11_look_96 : decode cX11_look 96 = .ok (.getfield 75, 3) := by decide +kernel
theorem dX11_look_99 : decode cX11_look 99 = .ok (.iload_n 3, 1) := by decide +kernel
theorem dX11_look_100 : decode cX11_look 100 = .ok (.iaload, 1) := by decide +kernel
theorem dX11_look_101 : decode cX11_look 101 = .ok (.invokevirtual 288, 3) := by decide +kernel
theorem dX11_look_104 : decode cX11_look 104 = .ok (.lastore, 1) := by decide +kernel
theorem dX11_look_105 : decode cX11_look 105 = .ok (.iinc 3 1, 3) := by decide +kernel
theorem dX11_look_108 : decode cX11_look 108 = .ok (.goto (-54), 3) := by decide +kernel
theorem dX11_look_111 : decode cX11_look 111 = .ok (.return_, 1) := by decide +kernel
theorem dX11_least_0 : decode cX11_least 0 = .ok (.iload 5, 2) := by decide +kernel
theorem dX11_least_2 : decode cX11_least 2 = .ok (.iconst 1, 1) := by decide +kernel
theorem dX11_least_3 : decode cX11_least 3 = .ok (.if_icmp .lt 21, 3) := by decide +kernel
theorem dX11_least_6 : decode cX11_least 6 = .ok (.iload 5, 2) := by decide +kernel
theorem dX11_least_8 : decode cX11_least 8 = .ok (.iconst 3, 1) := by decide +kernel
theorem dX11_least_9 : decode cX11_least 9 = .ok (.if_icmp .gt 15, 3) := by decide +kernel
theorem dX11_least_12 : decode cX11_least 12 = .ok (.aload_n 0, 1) := by decide +kernel
theorem dX11_least_13 : decode cX11_least 13 = .ok (.bipush 8, 2) := by decide +kernel
theorem dX11_least_15 : decode cX11_least 15 = .ok (.iload_n 1, 1) := by decide +kernel
theorem dX11_least_16 : decode cX11_least 16 = .ok (.iload_n 2, 1) := by decide +kernel
theorem dX11_least_17 : decode cX11_least 17 = .ok (.lload_n 3, 1) := by decide +kernel
theorem dX11_least_18 : decode cX11_least 18 = .ok (.invokevirtual 222, 3) := by decide +kernel
theorem dX11_least_21 : decode cX11_least 21 = .ok (.ifCond .ne 5, 3) := by decide +kernel
theorem dX11_least_24 : decode cX11_least 24 = .ok (.iconst (-1), 1) := by decide +kernel
theorem dX11_least_25 : decode cX11_least 25 = .ok (.ireturn, 1) := by decide +kernel
theorem dX11_least_26 : decode cX11_least 26 = .ok (.aload_n 0, 1) := by decide +kernel
theorem dX11_least_27 : decode cX11_least 27 = .ok (.getfield 118, 3) := by decide +kernel
theorem dX11_least_30 : decode cX11_least 30 = .ok (.bipush 60, 2) := by decide +kernel
theorem dX11_least_32 : decode cX11_least 32 = .ok (.if_icmp .eq 12, 3) := by decide +kernel
theorem dX11_least_35 : decode cX11_least 35 = .ok (.aload_n 0, 1) := by decide +kernel
theorem dX11_least_36 : decode cX11_least 36 = .ok (.getfield 292, 3) := by decide +kernel
theorem dX11_least_39 : decode cX11_least 39 = .ok (.bipush 12, 2) := by decide +kernel
theorem dX11_least_41 : decode cX11_least 41 = .ok (.if_icmp .ne 6, 3) := by decide +kernel
theorem dX11_least_44 : decode cX11_least 44 = .ok (.bipush (-2), 2) := by decide +kernel
theorem dX11_least_46 : decode cX11_least 46 = .ok (.ireturn, 1) := by decide +kernel
theorem dX11_least_47 : decode cX11_least 47 = .ok (.aload_n 0, 1) := by decide +kernel
theorem dX11_least_48 : decode cX11_least 48 = .ok (.dup, 1) := by decide +kernel
theorem dX11_least_49 : decode cX11_least 49 = .ok (.getfield 292, 3) := by decide +kernel
theorem dX11_least_52 : decode cX11_least 52 = .ok (.iconst 1, 1) := by decide +kernel
theorem dX11_least_53 : decode cX11_least 53 = .ok (.iadd, 1) := by decide +kernel
theorem dX11_least_54 : decode cX11_least 54 = .ok (.putfield 292, 3) := by decide +kernel
theorem dX11_least_57 : decode cX11_least 57 = .ok (.iconst 0, 1) := by decide +kernel
theorem dX11_least_58 : decode cX11_least 58 = .ok (.istore 6, 2) := by decide +kernel
theorem dX11_least_60 : decode cX11_least 60 = .ok (.iload 6, 2) := by decide +kernel
theorem dX11_least_62 : decode cX11_least 62 = .ok (.sipush 256, 3) := by decide +kernel
theorem dX11_least_65 : decode cX11_least 65 = .ok (.if_icmp .ge 67, 3) := by decide +kernel
theorem dX11_least_68 : decode cX11_least 68 = .ok (.aload_n 0, 1) := by decide +kernel
theorem dX11_least_69 : decode cX11_least 69 = .ok (.getfield 59, 3) := by decide +kernel
theorem dX11_least_72 : decode cX11_least 72 = .ok (.iload 6, 2) := by decide +kernel
theorem dX11_least_74 : decode cX11_least 74 = .ok (.iload 6, 2) := by decide +kernel
theorem dX11_least_76 : decode cX11_least 76 = .ok (.iastore, 1) := by decide +kernel
theorem dX11_least_77 : decode cX11_least 77 = .ok (.aload_n 0, 1) := by decide +kernel
theorem dX11_least_78 : decode cX11_least 78 = .ok (.getfield 62, 3) := by decide +kernel
theorem dX11_least_81 : decode cX11_least 81 = .ok (.iload 6, 2) := by decide +kernel
theorem dX11_least_83 : decode cX11_least 83 = .ok (.aload_n 0, 1) := by decide +kernel
theorem dX11_least_84 : decode cX11_least 84 = .ok (.bipush 8, 2) := by decide +kernel
theorem dX11_least_86 : decode cX11_least 86 = .ok (.iload_n 1, 1) := by decide +kernel
theorem dX11_least_87 : decode cX11_least 87 = .ok (.iload_n 2, 1) := by decide +kernel
theorem dX11_least_88 : decode cX11_least 88 = .ok (.lload_n 3, 1) := by decide +kernel
theorem dX11_least_89 : decode cX11_least 89 = .ok (.bipush 8, 2) := by decide +kernel
theorem dX11_least_91 : decode cX11_least 91 = .ok (.invokestatic 105, 3) := by decide +kernel
theorem dX11_least_94 : decode cX11_least 94 = .ok (.iload 6, 2) := by decide +kernel
theorem dX11_least_96 : decode cX11_least 96 = .ok (.i2l, 1) := by decide +kernel
theorem dX11_least_97 : decode cX11_least 97 = .ok (.invokevirtual 247, 3) := by decide +kernel
theorem dX11_least_100 : decode cX11_least 100 = .ok (.l2i, 1) := by decide +kernel
theorem dX11_least_101 : decode cX11_least 101 = .ok (.iastore, 1) := by decide +kernel
theorem dX11_least_102 : decode cX11_least 102 = .ok (.aload_n 0, 1) := by decide +kernel
theorem dX11_least_103 : decode cX11_least 103 = .ok (.getfield 65, 3) := by decide +kernel
theorem dX11_least_106 : decode cX11_least 106 = .ok (.iload 6, 2) := by decide +kernel
theorem dX11_least_108 : decode cX11_least 108 = .ok (.iload_n 2, 1) := by decide +kernel
theorem dX11_least_109 : decode cX11_least 109 = .ok (.iconst 5, 1) := by decide +kernel
theorem dX11_least_110 : decode cX11_least 110 = .ok (.if_icmp .ne 10, 3) := by decide +kernel
theorem dX11_least_113 : decode cX11_least 113 = .ok (.aload_n 0, 1) := by decide +kernel
theorem dX11_least_114 : decode cX11_least 114 = .ok (.getfield 243, 3) := by decide +kernel
theorem dX11_least_117 : decode cX11_least 117 = .ok (.ifCond .ne 7, 3) := by decide +kernel
theorem dX11_least_120 : decode cX11_least 120 = .ok (.iconst 1, 1) := by decide +kernel
theorem dX11_least_121 : decode cX11_least 121 = .ok (.goto 4, 3) := by decide +kernel
theorem dX11_least_124 : decode cX11_least 124 = .ok (.iconst 0, 1) := by decide +kernel
theorem dX11_least_125 : decode cX11_least 125 = .ok (.bastore, 1) := by decide +kernel
theorem dX11_least_126 : decode cX11_least 126 = .ok (.iinc 6 1, 3) := by decide +kernel
theorem dX11_least_129 : decode cX11_least 129 = .ok (.goto (-69), 3) := by decide +kernel
theorem dX11_least_132 : decode cX11_least 132 = .ok (.aload_n 0, 1) := by decide +kernel
theorem dX11_least_133 : decode cX11_least 133 = .ok (.sipush 1000, 3) := by decide +kernel
theorem dX11_least_136 : decode cX11_least 136 = .ok (.putfield 265, 3) := by decide +kernel
theorem dX11_least_139 : decode cX11_least 139 = .ok (.iconst 1, 1) := by decide +kernel
theorem dX11_least_140 : decode cX11_least 140 = .ok (.istore 6, 2) := by decide +kernel
theorem dX11_least_142 : decode cX11_least 142 = .ok (.iload 6, 2) := by decide +kernel
theorem dX11_least_144 : decode cX11_least 144 = .ok (.iload 5, 2) := by decide +kernel
theorem dX11_least_146 : decode cX11_least 146 = .ok (.if_icmp .gt 17, 3) := by decide +kernel
theorem dX11_least_149 : decode cX11_least 149 = .ok (.aload_n 0, 1) := by decide +kernel
theorem dX11_least_150 : decode cX11_least 150 = .ok (.iconst 0, 1) := by decide +kernel
theorem dX11_least_151 : decode cX11_least 151 = .ok (.iload 6, 2) := by decide +kernel
theorem dX11_least_153 : decode cX11_least 153 = .ok (.iconst 0, 1) := by decide +kernel
theorem dX11_least_154 : decode cX11_least 154 = .ok (.invokevirtual 278, 3) := by decide +kernel
theorem dX11_least_157 : decode cX11_least 157 = .ok (.iinc 6 1, 3) := by decide +kernel
theorem dX11_least_160 : decode cX11_least 160 = .ok (.goto (-18), 3) := by decide +kernel
theorem dX11_least_163 : decode cX11_least 163 = .ok (.aload_n 0, 1) := by decide +kernel
theorem dX11_least_164 : decode cX11_least 164 = .ok (.getfield 265, 3) := by decide +kernel
theorem dX11_least_167 : decode cX11_least 167 = .ok (.sipush 1000, 3) := by decide +kernel
theorem dX11_least_170 : decode cX11_least 170 = .ok (.if_icmp .ne 6, 3) := by decide +kernel
theorem dX11_least_173 : decode cX11_least 173 = .ok (.bipush (-3), 2) := by decide +kernel
theorem dX11_least_175 : decode cX11_least 175 = .ok (.ireturn, 1) := by decide +kernel
theorem dX11_least_176 : decode cX11_least 176 = .ok (.aload_n 0, 1) := by decide +kernel
theorem dX11_least_177 : decode cX11_least 177 = .ok (.bipush 8, 2) := by decide +kernel
theorem dX11_least_179 : decode cX11_least 179 = .ok (.invokevirtual 156, 3) := by decide +kernel
theorem dX11_least_182 : decode cX11_least 182 = .ok (.istore 6, 2) := by decide +kernel
theorem dX11_least_184 : decode cX11_least 184 = .ok (.iconst 0, 1) := by decide +kernel
theorem dX11_least_185 : decode cX11_least 185 = .ok (.istore 7, 2) := by decide +kernel
theorem dX11_least_187 : decode cX11_least 187 = .ok (.iload 7, 2) := by decide +kernel
theorem dX11_least_189 : decode cX11_least 189 = .ok (.aload_n 0, 1) := by decide +kernel
theorem dX11_least_190 : decode cX11_least 190 = .ok (.getfield 285, 3) := by decide +kernel
theorem dX11_least_193 : decode cX11_least 193 = .ok (.if_icmp .ge 38, 3) := by decide +kernel
theorem dX11_least_196 : decode cX11_least 196 = .ok (.aload_n 0, 1) := by decide +kernel
theorem dX11_least_197 : decode cX11_least 197 = .ok (.iload 6, 2) := by decide +kernel
theorem dX11_least_199 : decode cX11_least 199 = .ok (.aload_n 0, 1) := by decide +kernel
theorem dX11_least_200 : decode cX11_least 200 = .ok (.getfield 78, 3) := by decide +kernel
theorem dX11_least_203 : decode cX11_least 203 = .ok (.iload 7, 2) := by decide +kernel
theorem dX11_least_205 : decode cX11_least 205 = .ok (.iaload, 1) := by decide +kernel
theorem dX11_least_206 : decode cX11_least 206 = .ok (.aload_n 0, 1) := by decide +kernel
theorem dX11_least_207 : decode cX11_least 207 = .ok (.getfield 81, 3) := by decide +kernel
theorem dX11_least_210 : decode cX11_least 210 = .ok (.iload 7, 2) := by decide +kernel
theorem dX11_least_212 : decode cX11_least 212 = .ok (.iaload, 1) := by decide +kernel
theorem dX11_least_213 : decode cX11_least 213 = .ok (.aload_n 0, 1) := by decide +kernel
theorem dX11_least_214 : decode cX11_least 214 = .ok (.getfield 84, 3) := by decide +kernel
theorem dX11_least_217 : decode cX11_least 217 = .ok (.iload 7, 2) := by decide +kernel
theorem dX11_least_219 : decode cX11_least 219 = .ok (.laload, 1) := by decide +kernel
theorem dX11_least_220 : decode cX11_least 220 = .ok (.invokevirtual 167, 3) := by decide +kernel
theorem dX11_least_223 : decode cX11_least 223 = .ok (.istore 8, 2) := by decide +kernel
theorem dX11_least_225 : decode cX11_least 225 = .ok (.iinc 7 1, 3) := by decide +kernel
theorem dX11_least_228 : decode cX11_least 228 = .ok (.goto (-41), 3) := by decide +kernel
theorem dX11_least_231 : decode cX11_least 231 = .ok (.aload_n 0, 1) := by decide +kernel
theorem dX11_least_232 : decode cX11_least 232 = .ok (.iconst 1, 1) := by decide +kernel
theorem dX11_least_233 : decode cX11_least 233 = .ok (.iload 6, 2) := by decide +kernel
theorem dX11_least_235 : decode cX11_least 235 = .ok (.iconst 0, 1) := by decide +kernel
theorem dX11_least_236 : decode cX11_least 236 = .ok (.lconst 0, 1) := by decide +kernel
theorem dX11_least_237 : decode cX11_least 237 = .ok (.invokevirtual 160, 3) := by decide +kernel
theorem dX11_least_240 : decode cX11_least 240 = .ok (.iload 6, 2) := by decide +kernel
theorem dX11_least_242 : decode cX11_least 242 = .ok (.ireturn, 1) := by decide +kernel
theorem dX11_count_0 : decode cX11_count 0 = .ok (.iload_n 1, 1) := by decide +kernel
theorem dX11_count_1 : decode cX11_count 1 = .ok (.ifCond .ne 10, 3) := by decide +kernel
theorem dX11_count_4 : decode cX11_count 4 = .ok (.aload_n 0, 1) := by decide +kernel
theorem dX11_count_5 : decode cX11_count 5 = .ok (.getfield 118, 3) := by decide +kernel
theorem dX11_count_8 : decode cX11_count 8 = .ok (.goto 28, 3) := by decide +kernel
theorem dX11_count_11 : decode cX11_count 11 = .ok (.iload_n 1, 1) := by decide +kernel
theorem dX11_count_12 : decode cX11_count 12 = .ok (.iconst 1, 1) := by decide +kernel
theorem dX11_count_13 : decode cX11_count 13 = .ok (.if_icmp .ne 10, 3) := by decide +kernel
theorem dX11_count_16 : decode cX11_count 16 = .ok (.aload_n 0, 1) := by decide +kernel
theorem dX11_count_17 : decode cX11_count 17 = .ok (.getfield 147, 3) := by decide +kernel
theorem dX11_count_20 : decode cX11_count 20 = .ok (.goto 16, 3) := by decide +kernel
theorem dX11_count_23 : decode cX11_count 23 = .ok (.iload_n 1, 1) := by decide +kernel
theorem dX11_count_24 : decode cX11_count 24 = .ok (.iconst 2, 1) := by decide +kernel
theorem dX11_count_25 : decode cX11_count 25 = .ok (.if_icmp .ne 10, 3) := by decide +kernel
theorem dX11_count_28 : decode cX11_count 28 = .ok (.aload_n 0, 1) := by decide +kernel
theorem dX11_count_29 : decode cX11_count 29 = .ok (.getfield 292, 3) := by decide +kernel
theorem dX11_count_32 : decode cX11_count 32 = .ok (.goto 4, 3) := by decide +kernel
theorem dX11_count_35 : decode cX11_count 35 = .ok (.iconst (-1), 1) := by decide +kernel
theorem dX11_count_36 : decode cX11_count 36 = .ok (.ireturn, 1) := by decide +kernel
theorem dX11_undo_0 : decode cX11_undo 0 = .ok (.aload_n 0, 1) := by decide +kernel
theorem dX11_undo_1 : decode cX11_undo 1 = .ok (.getfield 147, 3) := by decide +kernel
theorem dX11_undo_4 : decode cX11_undo 4 = .ok (.ifCond .ne 5, 3) := by decide +kernel
theorem dX11_undo_7 : decode cX11_undo 7 = .ok (.iconst (-1), 1) := by decide +kernel
theorem dX11_undo_8 : decode cX11_undo 8 = .ok (.ireturn, 1) := by decide +kernel
theorem dX11_undo_9 : decode cX11_undo 9 = .ok (.aload_n 0, 1) := by decide +kernel
theorem dX11_undo_10 : decode cX11_undo 10 = .ok (.dup, 1) := by decide +kernel
theorem dX11_undo_11 : decode cX11_undo 11 = .ok (.getfield 147, 3) := by decide +kernel
theorem dX11_undo_14 : decode cX11_undo 14 = .ok (.iconst 1, 1) := by decide +kernel
theorem dX11_undo_15 : decode cX11_undo 15 = .ok (.isub, 1) := by decide +kernel
theorem dX11_undo_16 : decode cX11_undo 16 = .ok (.putfield 147, 3) := by decide +kernel
theorem dX11_undo_19 : decode cX11_undo 19 = .ok (.aload_n 0, 1) := by decide +kernel
theorem dX11_undo_20 : decode cX11_undo 20 = .ok (.getfield 35, 3) := by decide +kernel
theorem dX11_undo_23 : decode cX11_undo 23 = .ok (.aload_n 0, 1) := by decide +kernel
theorem dX11_undo_24 : decode cX11_undo 24 = .ok (.getfield 147, 3) := by decide +kernel
theorem dX11_undo_27 : decode cX11_undo 27 = .ok (.iaload, 1) := by decide +kernel
theorem dX11_undo_28 : decode cX11_undo 28 = .ok (.istore_n 1, 1) := by decide +kernel
theorem dX11_undo_29 : decode cX11_undo 29 = .ok (.aload_n 0, 1) := by decide +kernel
theorem dX11_undo_30 : decode cX11_undo 30 = .ok (.getfield 32, 3) := by decide +kernel
theorem dX11_undo_33 : decode cX11_undo 33 = .ok (.aload_n 0, 1) := by decide +kernel
theorem dX11_undo_34 : decode cX11_undo 34 = .ok (.getfield 147, 3) := by decide +kernel
theorem dX11_undo_37 : decode cX11_undo 37 = .ok (.iaload, 1) := by decide +kernel
theorem dX11_undo_38 : decode cX11_undo 38 = .ok (.tableswitch 107 1 5 #[34, 42, 55, 74, 92], 34) := by decide +kernel
theorem dX11_undo_72 : decode cX11_undo 72 = .ok (.aload_n 0, 1) := by decide +kernel
theorem dX11_undo_73 : decode cX11_undo 73 = .ok (.iload_n 1, 1) := by decide +kernel
theorem dX11_undo_74 : decode cX11_undo 74 = .ok (.putfield 118, 3) := by decide +kernel
theorem dX11_undo_77 : decode cX11_undo 77 = .ok (.goto 96, 3) := by decide +kernel
theorem dX11_undo_80 : decode cX11_undo 80 = .ok (.aload_n 0, 1) := by decide +kernel
theorem dX11_undo_81 : decode cX11_undo 81 = .ok (.getfield 13, 3) := by decide +kernel
theorem dX11_undo_84 : decode cX11_undo 84 = .ok (.iload_n 1, 1) := by decide +kernel
theorem dX11_undo_85 : decode cX11_undo 85 = .ok (.dup2, 1) := by decide +kernel
theorem dX11_undo_86 : decode cX11_undo 86 = .ok (.iaload, 1) := by decide +kernel
theorem dX11_undo_87 : decode cX11_undo 87 = .ok (.iconst 1, 1) := by decide +kernel
theorem dX11_undo_88 : decode cX11_undo 88 = .ok (.isub, 1) := by decide +kernel
theorem dX11_undo_89 : decode cX11_undo 89 = .ok (.iastore, 1) := by decide +kernel
theorem dX11_undo_90 : decode cX11_undo 90 = .ok (.goto 83, 3) := by decide +kernel
theorem dX11_undo_93 : decode cX11_undo 93 = .ok (.aload_n 0, 1) := by decide +kernel
theorem dX11_undo_94 : decode cX11_undo 94 = .ok (.getfield 26, 3) := by decide +kernel
theorem dX11_undo_97 : decode cX11_undo 97 = .ok (.iload_n 1, 1) := by decide +kernel
theorem dX11_undo_98 : decode cX11_undo 98 = .ok (.aload_n 0, 1) := by decide +kernel
theorem dX11_undo_99 : decode cX11_undo 99 = .ok (.getfield 41, 3) := by decide +kernel
theorem dX11_undo_102 : decode cX11_undo 102 = .ok (.aload_n 0, 1) := by decide +kernel
theorem dX11_undo_103 : decode cX11_undo 103 = .ok (.getfield 147, 3) := by decide +kernel
theorem dX11_undo_106 : decode cX11_undo 106 = .ok (.laload, 1) := by decide +kernel
theorem dX11_undo_107 : decode cX11_undo 107 = .ok (.l2i, 1) := by decide +kernel
theorem dX11_undo_108 : decode cX11_undo 108 = .ok (.iastore, 1) := by decide +kernel
theorem dX11_undo_109 : decode cX11_undo 109 = .ok (.goto 64, 3) := by decide +kernel
theorem dX11_undo_112 : decode cX11_undo 112 = .ok (.aload_n 0, 1) := by decide +kernel
theorem dX11_undo_113 : decode cX11_undo 113 = .ok (.getfield 56, 3) := by decide +kernel
theorem dX11_undo_116 : decode cX11_undo 116 = .ok (.iload_n 1, 1) := by decide +kernel
theorem dX11_undo_117 : decode cX11_undo 117 = .ok (.aload_n 0, 1) := by decide +kernel
theorem dX11_undo_118 : decode cX11_undo 118 = .ok (.getfield 41, 3) := by decide +kernel
theorem dX11_undo_121 : decode cX11_undo 121 = .ok (.aload_n 0, 1) := by decide +kernel
theorem dX11_undo_122 : decode cX11_undo 122 = .ok (.getfield 147, 3) := by decide +kernel
theorem dX11_undo_125 : decode cX11_undo 125 = .ok (.laload, 1) := by decide +kernel
theorem dX11_undo_126 : decode cX11_undo 126 = .ok (.lastore, 1) := by decide +kernel
theorem dX11_undo_127 : decode cX11_undo 127 = .ok (.goto 46, 3) := by decide +kernel
theorem dX11_undo_130 : decode cX11_undo 130 = .ok (.aload_n 0, 1) := by decide +kernel
theorem dX11_undo_131 : decode cX11_undo 131 = .ok (.bipush 8, 2) := by decide +kernel
theorem dX11_undo_133 : decode cX11_undo 133 = .ok (.aload_n 0, 1) := by decide +kernel
theorem dX11_undo_134 : decode cX11_undo 134 = .ok (.getfield 147, 3) := by decide +kernel
theorem dX11_undo_137 : decode cX11_undo 137 = .ok (.iadd, 1) := by decide +kernel
theorem dX11_undo_138 : decode cX11_undo 138 = .ok (.iload_n 1, 1) := by decide +kernel
theorem dX11_undo_139 : decode cX11_undo 139 = .ok (.invokevirtual 143, 3) := by decide +kernel
theorem dX11_undo_142 : decode cX11_undo 142 = .ok (.goto 31, 3) := by decide +kernel
theorem dX11_undo_145 : decode cX11_undo 145 = .ok (.aload_n 0, 1) := by decide +kernel
theorem dX11_undo_146 : decode cX11_undo 146 = .ok (.getfield 50, 3) := by decide +kernel
theorem dX11_undo_149 : decode cX11_undo 149 = .ok (.bipush 100, 2) := by decide +kernel
theorem dX11_undo_151 : decode cX11_undo 151 = .ok (.iload_n 1, 1) := by decide +kernel
theorem dX11_undo_152 : decode cX11_undo 152 = .ok (.imul, 1) := by decide +kernel
theorem dX11_undo_153 : decode cX11_undo 153 = .ok (.aload_n 0, 1) := by decide +kernel
theorem dX11_undo_154 : decode cX11_undo 154 = .ok (.getfield 38, 3) := by decide +kernel
theorem dX11_undo_157 : decode cX11_undo 157 = .ok (.aload_n 0, 1) := by decide +kernel
theorem dX11_undo_158 : decode cX11_undo 158 = .ok (.getfield 147, 3) := by decide +kernel
theorem dX11_undo_161 : decode cX11_undo 161 = .ok (.iaload, 1) := by decide +kernel
theorem dX11_undo_162 : decode cX11_undo 162 = .ok (.iadd, 1) := by decide +kernel
theorem dX11_undo_163 : decode cX11_undo 163 = .ok (.aload_n 0, 1) := by decide +kernel
theorem dX11_undo_164 : decode cX11_undo 164 = .ok (.getfield 41, 3) := by decide +kernel
theorem dX11_undo_167 : decode cX11_undo 167 = .ok (.aload_n 0, 1) := by decide +kernel
theorem dX11_undo_168 : decode cX11_undo 168 = .ok (.getfield 147, 3) := by decide +kernel
theorem dX11_undo_171 : decode cX11_undo 171 = .ok (.laload, 1) := by decide +kernel
theorem dX11_undo_172 : decode cX11_undo 172 = .ok (.lastore, 1) := by decide +kernel
theorem dX11_undo_173 : decode cX11_undo 173 = .ok (.aload_n 0, 1) := by decide +kernel
theorem dX11_undo_174 : decode cX11_undo 174 = .ok (.getfield 147, 3) := by decide +kernel
theorem dX11_undo_177 : decode cX11_undo 177 = .ok (.ireturn, 1) := by decide +kernel
theorem dX11_isHook_0 : decode cX11_isHook 0 = .ok (.iload_n 0, 1) := by decide +kernel
theorem dX11_isHook_1 : decode cX11_isHook 1 = .ok (.ifCond .lt 13, 3) := by decide +kernel
theorem dX11_isHook_4 : decode cX11_isHook 4 = .ok (.iload_n 0, 1) := by decide +kernel
theorem dX11_isHook_5 : decode cX11_isHook 5 = .ok (.bipush 8, 2) := by decide +kernel
theorem dX11_isHook_7 : decode cX11_isHook 7 = .ok (.if_icmp .ge 7, 3) := by decide +kernel
theorem dX11_isHook_10 : decode cX11_isHook 10 = .ok (.iconst 1, 1) := by decide +kernel
theorem dX11_isHook_11 : decode cX11_isHook 11 = .ok (.goto 4, 3) := by decide +kernel
theorem dX11_isHook_14 : decode cX11_isHook 14 = .ok (.iconst 0, 1) := by decide +kernel
theorem dX11_isHook_15 : decode cX11_isHook 15 = .ok (.ireturn, 1) := by decide +kernel
theorem dX11_hook_0 : decode cX11_hook 0 = .ok (.iload_n 1, 1) := by decide +kernel
theorem dX11_hook_1 : decode cX11_hook 1 = .ok (.invokestatic 295, 3) := by decide +kernel
theorem dX11_hook_4 : decode cX11_hook 4 = .ok (.ifCond .eq 12, 3) := by decide +kernel
theorem dX11_hook_7 : decode cX11_hook 7 = .ok (.iload_n 2, 1) := by decide +kernel
theorem dX11_hook_8 : decode cX11_hook 8 = .ok (.ifCond .lt 8, 3) := by decide +kernel
theorem dX11_hook_11 : decode cX11_hook 11 = .ok (.iload_n 2, 1) := by decide +kernel
theorem dX11_hook_12 : decode cX11_hook 12 = .ok (.iconst 5, 1) := by decide +kernel
theorem dX11_hook_13 : decode cX11_hook 13 = .ok (.if_icmp .le 5, 3) := by decide +kernel
theorem dX11_hook_16 : decode cX11_hook 16 = .ok (.iconst (-1), 1) := by decide +kernel
theorem dX11_hook_17 : decode cX11_hook 17 = .ok (.ireturn, 1) := by decide +kernel
theorem dX11_hook_18 : decode cX11_hook 18 = .ok (.iload_n 2, 1) := by decide +kernel
theorem dX11_hook_19 : decode cX11_hook 19 = .ok (.ifCond .le 45, 3) := by decide +kernel
theorem dX11_hook_22 : decode cX11_hook 22 = .ok (.aload_n 0, 1) := by decide +kernel
theorem dX11_hook_23 : decode cX11_hook 23 = .ok (.iload_n 3, 1) := by decide +kernel
theorem dX11_hook_24 : decode cX11_hook 24 = .ok (.invokevirtual 164, 3) := by decide +kernel
theorem dX11_hook_27 : decode cX11_hook 27 = .ok (.ifCond .eq 35, 3) := by decide +kernel
theorem dX11_hook_30 : decode cX11_hook 30 = .ok (.iload 4, 2) := by decide +kernel
theorem dX11_hook_32 : decode cX11_hook 32 = .ok (.ifCond .lt 30, 3) := by decide +kernel
theorem dX11_hook_35 : decode cX11_hook 35 = .ok (.iload 4, 2) := by decide +kernel
theorem dX11_hook_37 : decode cX11_hook 37 = .ok (.aload_n 0, 1) := by decide +kernel
theorem dX11_hook_38 : decode cX11_hook 38 = .ok (.getfield 13, 3) := by decide +kernel
theorem dX11_hook_41 : decode cX11_hook 41 = .ok (.iload_n 3, 1) := by decide +kernel
theorem dX11_hook_42 : decode cX11_hook 42 = .ok (.iaload, 1) := by decide +kernel
theorem dX11_hook_43 : decode cX11_hook 43 = .ok (.if_icmp .gt 19, 3) := by decide +kernel
theorem dX11_hook_46 : decode cX11_hook 46 = .ok (.iload_n 2, 1) := by decide +kernel
theorem dX11_hook_47 : decode cX11_hook 47 = .ok (.iconst 1, 1) := by decide +kernel
theorem dX11_hook_48 : decode cX11_hook 48 = .ok (.if_icmp .ne 16, 3) := by decide +kernel
theorem dX11_hook_51 : decode cX11_hook 51 = .ok (.iload 4, 2) := by decide +kernel
theorem dX11_hook_53 : decode cX11_hook 53 = .ok (.aload_n 0, 1) := by decide +kernel
theorem dX11_hook_54 : decode cX11_hook 54 = .ok (.getfield 13, 3) := by decide +kernel
theorem dX11_hook_57 : decode cX11_hook 57 = .ok (.iload_n 3, 1) := by decide +kernel
theorem dX11_hook_58 : decode cX11_hook 58 = .ok (.iaload, 1) := by decide +kernel
theorem dX11_hook_59 : decode cX11_hook 59 = .ok (.if_icmp .ne 5, 3) := by decide +kernel
theorem dX11_hook_62 : decode cX11_hook 62 = .ok (.iconst (-1), 1) := by decide +kernel
theorem dX11_hook_63 : decode cX11_hook 63 = .ok (.ireturn, 1) := by decide +kernel
theorem dX11_hook_64 : decode cX11_hook 64 = .ok (.aload_n 0, 1) := by decide +kernel
theorem dX11_hook_65 : decode cX11_hook 65 = .ok (.getfield 44, 3) := by decide +kernel
theorem dX11_hook_68 : decode cX11_hook 68 = .ok (.iload_n 1, 1) := by decide +kernel
theorem dX11_hook_69 : decode cX11_hook 69 = .ok (.iaload, 1) := by decide +kernel
theorem dX11_hook_70 : decode cX11_hook 70 = .ok (.istore 5, 2) := by decide +kernel
theorem dX11_hook_72 : decode cX11_hook 72 = .ok (.aload_n 0, 1) := by decide +kernel
theorem dX11_hook_73 : decode cX11_hook 73 = .ok (.iconst 5, 1) := by decide +kernel
theorem dX11_hook_74 : decode cX11_hook 74 = .ok (.iload_n 1, 1) := by decide +kernel
theorem dX11_hook_75 : decode cX11_hook 75 = .ok (.iconst 0, 1) := by decide +kernel
theorem dX11_hook_76 : decode cX11_hook 76 = .ok (.lconst 0, 1) := by decide +kernel
theorem dX11_hook_77 : decode cX11_hook 77 = .ok (.invokevirtual 160, 3) := by decide +kernel
theorem dX11_hook_80 : decode cX11_hook 80 = .ok (.aload_n 0, 1) := by decide +kernel
theorem dX11_hook_81 : decode cX11_hook 81 = .ok (.iload_n 1, 1) := by decide +kernel
theorem dX11_hook_82 : decode cX11_hook 82 = .ok (.bipush 8, 2) := by decide +kernel
theorem dX11_hook_84 : decode cX11_hook 84 = .ok (.aload_n 0, 1) := by decide +kernel
theorem dX11_hook_85 : decode cX11_hook 85 = .ok (.getfield 147, 3) := by decide +kernel
theorem dX11_hook_88 : decode cX11_hook 88 = .ok (.iadd, 1) := by decide +kernel
theorem dX11_hook_89 : decode cX11_hook 89 = .ok (.iconst 1, 1) := by decide +kernel
theorem dX11_hook_90 : decode cX11_hook 90 = .ok (.isub, 1) := by decide +kernel
theorem dX11_hook_91 : decode cX11_hook 91 = .ok (.invokevirtual 143, 3) := by decide +kernel
theorem dX11_hook_94 : decode cX11_hook 94 = .ok (.aload_n 0, 1) := by decide +kernel
theorem dX11_hook_95 : decode cX11_hook 95 = .ok (.getfield 44, 3) := by decide +kernel
theorem dX11_hook_98 : decode cX11_hook 98 = .ok (.iload_n 1, 1) := by decide +kernel
theorem dX11_hook_99 : decode cX11_hook 99 = .ok (.iload_n 2, 1) := by decide +kernel
theorem dX11_hook_100 : decode cX11_hook 100 = .ok (.iastore, 1) := by decide +kernel
theorem dX11_hook_101 : decode cX11_hook 101 = .ok (.aload_n 0, 1) := by decide +kernel
theorem dX11_hook_102 : decode cX11_hook 102 = .ok (.getfield 47, 3) := by decide +kernel
theorem dX11_hook_105 : decode cX11_hook 105 = .ok (.iload_n 1, 1) := by decide +kernel
theorem dX11_hook_106 : decode cX11_hook 106 = .ok (.iconst 0, 1) := by decide +kernel
theorem dX11_hook_107 : decode cX11_hook 107 = .ok (.iastore, 1) := by decide +kernel
theorem dX11_hook_108 : decode cX11_hook 108 = .ok (.iload_n 2, 1) := by decide +kernel
theorem dX11_hook_109 : decode cX11_hook 109 = .ok (.iconst 1, 1) := by decide +kernel
theorem dX11_hook_110 : decode cX11_hook 110 = .ok (.if_icmp .ne 58, 3) := by decide +kernel
theorem dX11_hook_113 : decode cX11_hook 113 = .ok (.aload_n 0, 1) := by decide +kernel
theorem dX11_hook_114 : decode cX11_hook 114 = .ok (.getfield 47, 3) := by decide +kernel
theorem dX11_hook_117 : decode cX11_hook 117 = .ok (.iload_n 1, 1) := by decide +kernel
theorem dX11_hook_118 : decode cX11_hook 118 = .ok (.iconst 2, 1) := by decide +kernel
theorem dX11_hook_119 : decode cX11_hook 119 = .ok (.iastore, 1) := by decide +kernel
theorem dX11_hook_120 : decode cX11_hook 120 = .ok (.aload_n 0, 1) := by decide +kernel
theorem dX11_hook_121 : decode cX11_hook 121 = .ok (.getfield 50, 3) := by decide +kernel
theorem dX11_hook_124 : decode cX11_hook 124 = .ok (.bipush 100, 2) := by decide +kernel
theorem dX11_hook_126 : decode cX11_hook 126 = .ok (.iload_n 1, 1) := by decide +kernel
theorem dX11_hook_127 : decode cX11_hook 127 = .ok (.imul, 1) := by decide +kernel
theorem dX11_hook_128 : decode cX11_hook 128 = .ok (.aload_n 0, 1) := by decide +kernel
theorem dX11_hook_129 : decode cX11_hook 129 = .ok (.getfield 16, 3) := by decide +kernel
theorem dX11_hook_132 : decode cX11_hook 132 = .ok (.bipush 12, 2) := by decide +kernel
theorem dX11_hook_134 : decode cX11_hook 134 = .ok (.iload_n 3, 1) := by decide +kernel
theorem dX11_hook_135 : decode cX11_hook 135 = .ok (.imul, 1) := by decide +kernel
theorem dX11_hook_136 : decode cX11_hook 136 = .ok (.iload 4, 2) := by decide +kernel
theorem dX11_hook_138 : decode cX11_hook 138 = .ok (.iadd, 1) := by decide +kernel
theorem dX11_hook_139 : decode cX11_hook 139 = .ok (.iaload, 1) := by decide +kernel
theorem dX11_hook_140 : decode cX11_hook 140 = .ok (.i2l, 1) := by decide +kernel
theorem dX11_hook_141 : decode cX11_hook 141 = .ok (.lastore, 1) := by decide +kernel
theorem dX11_hook_142 : decode cX11_hook 142 = .ok (.aload_n 0, 1) := by decide +kernel
theorem dX11_hook_143 : decode cX11_hook 143 = .ok (.getfield 50, 3) := by decide +kernel
theorem dX11_hook_146 : decode cX11_hook 146 = .ok (.bipush 100, 2) := by decide +kernel
theorem dX11_hook_148 : decode cX11_hook 148 = .ok (.iload_n 1, 1) := by decide +kernel
theorem dX11_hook_149 : decode cX11_hook 149 = .ok (.imul, 1) := by decide +kernel
theorem dX11_hook_150 : decode cX11_hook 150 = .ok (.iconst 1, 1) := by decide +kernel
theorem dX11_hook_151 : decode cX11_hook 151 = .ok (.iadd, 1) := by decide +kernel
theorem dX11_hook_152 : decode cX11_hook 152 = .ok (.aload_n 0, 1) := by decide +kernel
theorem dX11_hook_153 : decode cX11_hook 153 = .ok (.getfield 22, 3) := by decide +kernel
theorem dX11_hook_156 : decode cX11_hook 156 = .ok (.bipush 12, 2) := by decide +kernel
theorem dX11_hook_158 : decode cX11_hook 158 = .ok (.iload_n 3, 1) := by decide +kernel
theorem dX11_hook_159 : decode cX11_hook 159 = .ok (.imul, 1) := by decide +kernel
theorem dX11_hook_160 : decode cX11_hook 160 = .ok (.iload 4, 2) := by decide +kernel
theorem dX11_hook_162 : decode cX11_hook 162 = .ok (.iadd, 1) := by decide +kernel
theorem dX11_hook_163 : decode cX11_hook 163 = .ok (.laload, 1) := by decide +kernel
theorem dX11_hook_164 : decode cX11_hook 164 = .ok (.lastore, 1) := by decide +kernel
theorem dX11_hook_165 : decode cX11_hook 165 = .ok (.goto 104, 3) := by decide +kernel
theorem dX11_hook_168 : decode cX11_hook 168 = .ok (.iload_n 2, 1) := by decide +kernel
theorem dX11_hook_169 : decode cX11_hook 169 = .ok (.iconst 1, 1) := by decide +kernel
theorem dX11_hook_170 : decode cX11_hook 170 = .ok (.if_icmp .le 99, 3) := by decide +kernel
theorem dX11_hook_173 : decode cX11_hook 173 = .ok (.aload_n 0, 1) := by decide +kernel
theorem dX11_hook_174 : decode cX11_hook 174 = .ok (.iload_n 3, 1) := by decide +kernel
theorem dX11_hook_175 : decode cX11_hook 175 = .ok (.iload_n 3, 1) := by decide +kernel
theorem dX11_hook_176 : decode cX11_hook 176 = .ok (.i2l, 1) := by decide +kernel
theorem dX11_hook_177 : decode cX11_hook 177 = .ok (.iload 4, 2) := by decide +kernel
theorem dX11_hook_179 : decode cX11_hook 179 = .ok (.invokevirtual 236, 3) := by decide +kernel
theorem dX11_hook_182 : decode cX11_hook 182 = .ok (.aload_n 0, 1) := by decide +kernel
theorem dX11_hook_183 : decode cX11_hook 183 = .ok (.getfield 47, 3) := by decide +kernel
theorem dX11_hook_186 : decode cX11_hook 186 = .ok (.iload_n 1, 1) := by decide +kernel
theorem dX11_hook_187 : decode cX11_hook 187 = .ok (.iload 4, 2) := by decide +kernel
theorem dX11_hook_189 : decode cX11_hook 189 = .ok (.iastore, 1) := by decide +kernel
theorem dX11_hook_190 : decode cX11_hook 190 = .ok (.iconst 0, 1) := by decide +kernel
theorem dX11_hook_191 : decode cX11_hook 191 = .ok (.istore 6, 2) := by decide +kernel
theorem dX11_hook_193 : decode cX11_hook 193 = .ok (.iload 6, 2) := by decide +kernel
theorem dX11_hook_195 : decode cX11_hook 195 = .ok (.iload 4, 2) := by decide +kernel
theorem dX11_hook_197 : decode cX11_hook 197 = .ok (.if_icmp .ge 72, 3) := by decide +kernel
theorem dX11_hook_200 : decode cX11_hook 200 = .ok (.aload_n 0, 1) := by decide +kernel
theorem dX11_hook_201 : decode cX11_hook 201 = .ok (.getfield 29, 3) := by decide +kernel
theorem dX11_hook_204 : decode cX11_hook 204 = .ok (.iload 6, 2) := by decide +kernel
theorem dX11_hook_206 : decode cX11_hook 206 = .ok (.iconst 1, 1) := by decide +kernel
theorem dX11_hook_207 : decode cX11_hook 207 = .ok (.iadd, 1) := by decide +kernel
theorem dX11_hook_208 : decode cX11_hook 208 = .ok (.laload, 1) := by decide +kernel
theorem dX11_hook_209 : decode cX11_hook 209 = .ok (.lstore 7, 2) := by decide +kernel
theorem dX11_hook_211 : decode cX11_hook 211 = .ok (.aload_n 0, 1) := by decide +kernel
theorem dX11_hook_212 : decode cX11_hook 212 = .ok (.getfield 50, 3) := by decide +kernel
theorem dX11_hook_215 : decode cX11_hook 215 = .ok (.bipush 100, 2) := by decide +kernel
theorem dX11_hook_217 : decode cX11_hook 217 = .ok (.iload_n 1, 1) := by decide +kernel
theorem dX11_hook_218 : decode cX11_hook 218 = .ok (.imul, 1) := by decide +kernel
theorem dX11_hook_219 : decode cX11_hook 219 = .ok (.iload 6, 2) := by decide +kernel
theorem dX11_hook_221 : decode cX11_hook 221 = .ok (.iadd, 1) := by decide +kernel
theorem dX11_hook_222 : decode cX11_hook 222 = .ok (.iload_n 2, 1) := by decide +kernel
theorem dX11_hook_223 : decode cX11_hook 223 = .ok (.iconst 2, 1) := by decide +kernel
theorem dX11_hook_224 : decode cX11_hook 224 = .ok (.if_icmp .ne 10, 3) := by decide +kernel
theorem dX11_hook_227 : decode cX11_hook 227 = .ok (.lload 7, 2) := by decide +kernel
theorem dX11_hook_229 : decode cX11_hook 229 = .ok (.l2i, 1) := by decide +kernel
theorem dX11_hook_230 : decode cX11_hook 230 = .ok (.i2l, 1) := by decide +kernel
theorem dX11_hook_231 : decode cX11_hook 231 = .ok (.goto 31, 3) := by decide +kernel
theorem dX11_hook_234 : decode cX11_hook 234 = .ok (.iload_n 2, 1) := by decide +kernel
theorem dX11_hook_235 : decode cX11_hook 235 = .ok (.iconst 3, 1) := by decide +kernel
theorem dX11_hook_236 : decode cX11_hook 236 = .ok (.if_icmp .ne 8, 3) := by decide +kernel
theorem dX11_hook_239 : decode cX11_hook 239 = .ok (.lload 7, 2) := by decide +kernel
theorem dX11_hook_241 : decode cX11_hook 241 = .ok (.goto 21, 3) := by decide +kernel
theorem dX11_hook_244 : decode cX11_hook 244 = .ok (.iload_n 2, 1) := by decide +kernel
theorem dX11_hook_245 : decode cX11_hook 245 = .ok (.iconst 4, 1) := by decide +kernel
theorem dX11_hook_246 : decode cX11_hook 246 = .ok (.if_icmp .ne 11, 3) := by decide +kernel
theorem dX11_hook_249 : decode cX11_hook 249 = .ok (.lload 7, 2) := by decide +kernel
theorem dX11_hook_251 : decode cX11_hook 251 = .ok (.l2i, 1) := by decide +kernel
theorem dX11_hook_252 : decode cX11_hook 252 = .ok (.i2b, 1) := by decide +kernel
theorem dX11_hook_253 : decode cX11_hook 253 = .ok (.i2l, 1) := by decide +kernel
theorem dX11_hook_254 : decode cX11_hook 254 = .ok (.goto 8, 3) := by decide +kernel
theorem dX11_hook_257 : decode cX11_hook 257 = .ok (.lload 7, 2) := by decide +kernel
theorem dX11_hook_259 : decode cX11_hook 259 = .ok (.l2i, 1) := by decide +kernel
theorem dX11_hook_260 : decode cX11_hook 260 = .ok (.i2s, 1) := by decide +kernel
theorem dX11_hook_261 : decode cX11_hook 261 = .ok (.i2l, 1) := by decide +kernel
theorem dX11_hook_262 : decode cX11_hook 262 = .ok (.lastore, 1) := by decide +kernel
theorem dX11_hook_263 : decode cX11_hook 263 = .ok (.iinc 6 1, 3) := by decide +kernel
theorem dX11_hook_266 : decode cX11_hook 266 = .ok (.goto (-73), 3) := by decide +kernel
theorem dX11_hook_269 : decode cX11_hook 269 = .ok (.iload 5, 2) := by decide +kernel
theorem dX11_hook_271 : decode cX11_hook 271 = .ok (.ireturn, 1) := by decide +kernel
theorem dX11_held_0 : decode cX11_held 0 = .ok (.iload_n 1, 1) := by decide +kernel
theorem dX11_held_1 : decode cX11_held 1 = .ok (.invokestatic 295, 3) := by decide +kernel
theorem dX11_held_4 : decode cX11_held 4 = .ok (.ifCond .eq 12, 3) := by decide +kernel
theorem dX11_held_7 : decode cX11_held 7 = .ok (.aload_n 0, 1) := by decide +kernel
theorem dX11_held_8 : decode cX11_held 8 = .ok (.getfield 44, 3) := by decide +kernel
theorem dX11_held_11 : decode cX11_held 11 = .ok (.iload_n 1, 1) := by decide +kernel
theorem dX11_held_12 : decode cX11_held 12 = .ok (.iaload, 1) := by decide +kernel
theorem dX11_held_13 : decode cX11_held 13 = .ok (.goto 4, 3) := by decide +kernel
theorem dX11_held_16 : decode cX11_held 16 = .ok (.iconst (-1), 1) := by decide +kernel
theorem dX11_held_17 : decode cX11_held 17 = .ok (.ireturn, 1) := by decide +kernel
theorem dX11_isIn_0 : decode cX11_isIn 0 = .ok (.iload_n 2, 1) := by decide +kernel
theorem dX11_isIn_1 : decode cX11_isIn 1 = .ok (.ifCond .lt 17, 3) := by decide +kernel
theorem dX11_isIn_4 : decode cX11_isIn 4 = .ok (.iload_n 2, 1) := by decide +kernel
theorem dX11_isIn_5 : decode cX11_isIn 5 = .ok (.aload_n 0, 1) := by decide +kernel
theorem dX11_isIn_6 : decode cX11_isIn 6 = .ok (.getfield 47, 3) := by decide +kernel
theorem dX11_isIn_9 : decode cX11_isIn 9 = .ok (.iload_n 1, 1) := by decide +kernel
theorem dX11_isIn_10 : decode cX11_isIn 10 = .ok (.iaload, 1) := by decide +kernel
theorem dX11_isIn_11 : decode cX11_isIn 11 = .ok (.if_icmp .ge 7, 3) := by decide +kernel
theorem dX11_isIn_14 : decode cX11_isIn 14 = .ok (.iconst 1, 1) := by decide +kernel
theorem dX11_isIn_15 : decode cX11_isIn 15 = .ok (.goto 4, 3) := by decide +kernel
theorem dX11_isIn_18 : decode cX11_isIn 18 = .ok (.iconst 0, 1) := by decide +kernel
theorem dX11_isIn_19 : decode cX11_isIn 19 = .ok (.ireturn, 1) := by decide +kernel
theorem dX11_use_0 : decode cX11_use 0 = .ok (.iload_n 1, 1) := by decide +kernel
theorem dX11_use_1 : decode cX11_use 1 = .ok (.invokestatic 295, 3) := by decide +kernel
theorem dX11_use_4 : decode cX11_use 4 = .ok (.ifCond .eq 25, 3) := by decide +kernel
theorem dX11_use_7 : decode cX11_use 7 = .ok (.iload_n 2, 1) := by decide +kernel
theorem dX11_use_8 : decode cX11_use 8 = .ok (.ifCond .lt 21, 3) := by decide +kernel
theorem dX11_use_11 : decode cX11_use 11 = .ok (.iload_n 2, 1) := by decide +kernel
theorem dX11_use_12 : decode cX11_use 12 = .ok (.bipush 10, 2) := by decide +kernel
theorem dX11_use_14 : decode cX11_use 14 = .ok (.if_icmp .gt 15, 3) := by decide +kernel
theorem dX11_use_17 : decode cX11_use 17 = .ok (.iload_n 2, 1) := by decide +kernel
theorem dX11_use_18 : decode cX11_use 18 = .ok (.bipush 9, 2) := by decide +kernel
theorem dX11_use_20 : decode cX11_use 20 = .ok (.if_icmp .ne 11, 3) := by decide +kernel
theorem dX11_use_23 : decode cX11_use 23 = .ok (.iload_n 3, 1) := by decide +kernel
theorem dX11_use_24 : decode cX11_use 24 = .ok (.bipush 100, 2) := by decide +kernel
theorem dX11_use_26 : decode cX11_use 26 = .ok (.if_icmp .le 5, 3) := by decide +kernel
theorem dX11_use_29 : decode cX11_use 29 = .ok (.iconst (-1), 1) := by decide +kernel
theorem dX11_use_30 : decode cX11_use 30 = .ok (.ireturn, 1) := by decide +kernel
theorem dX11_use_31 : decode cX11_use 31 = .ok (.aload_n 0, 1) := by decide +kernel
theorem dX11_use_32 : decode cX11_use 32 = .ok (.getfield 44, 3) := by decide +kernel
theorem dX11_use_35 : decode cX11_use 35 = .ok (.iload_n 1, 1) := by decide +kernel
theorem dX11_use_36 : decode cX11_use 36 = .ok (.iaload, 1) := by decide +kernel
theorem dX11_use_37 : decode cX11_use 37 = .ok (.istore 5, 2) := by decide +kernel
theorem dX11_use_39 : decode cX11_use 39 = .ok (.iload 5, 2) := by decide +kernel
theorem dX11_use_41 : decode cX11_use 41 = .ok (.ifCond .ne 17, 3) := by decide +kernel
theorem dX11_use_44 : decode cX11_use 44 = .ok (.iload_n 2, 1) := by decide +kernel
theorem dX11_use_45 : decode cX11_use 45 = .ok (.bipush 10, 2) := by decide +kernel
theorem dX11_use_47 : decode cX11_use 47 = .ok (.if_icmp .ne 8, 3) := by decide +kernel
theorem dX11_use_50 : decode cX11_use 50 = .ok (.bipush (-15), 2) := by decide +kernel
theorem dX11_use_52 : decode cX11_use 52 = .ok (.goto 5, 3) := by decide +kernel
theorem dX11_use_55 : decode cX11_use 55 = .ok (.bipush (-12), 2) := by decide +kernel
theorem dX11_use_57 : decode cX11_use 57 = .ok (.ireturn, 1) := by decide +kernel
theorem dX11_use_58 : decode cX11_use 58 = .ok (.iload_n 2, 1) := by decide +kernel
theorem dX11_use_59 : decode cX11_use 59 = .ok (.bipush 10, 2) := by decide +kernel
theorem dX11_use_61 : decode cX11_use 61 = .ok (.if_icmp .ne 6, 3) := by decide +kernel
theorem dX11_use_64 : decode cX11_use 64 = .ok (.bipush (-11), 2) := by decide +kernel
theorem dX11_use_66 : decode cX11_use 66 = .ok (.ireturn, 1) := by decide +kernel
theorem dX11_use_67 : decode cX11_use 67 = .ok (.iload_n 2, 1) := by decide +kernel
theorem dX11_use_68 : decode cX11_use 68 = .ok (.iconst 2, 1) := by decide +kernel
theorem dX11_use_69 : decode cX11_use 69 = .ok (.if_icmp .ge 7, 3) := by decide +kernel
theorem dX11_use_72 : decode cX11_use 72 = .ok (.iconst 1, 1) := by decide +kernel
theorem dX11_use_73 : decode cX11_use 73 = .ok (.goto 24, 3) := by decide +kernel
theorem dX11_use_76 : decode cX11_use 76 = .ok (.iload_n 2, 1) := by decide +kernel
theorem dX11_use_77 : decode cX11_use 77 = .ok (.bipush 6, 2) := by decide +kernel
theorem dX11_use_79 : decode cX11_use 79 = .ok (.if_icmp .ge 7, 3) := by decide +kernel
theorem dX11_use_82 : decode cX11_use 82 = .ok (.iload_n 2, 1) := by decide +kernel
theorem dX11_use_83 : decode cX11_use 83 = .ok (.goto 14, 3) := by decide +kernel
theorem dX11_use_86 : decode cX11_use 86 = .ok (.iload_n 2, 1) := by decide +kernel
theorem dX11_use_87 : decode cX11_use 87 = .ok (.bipush 8, 2) := by decide +kernel
theorem dX11_use_89 : decode cX11_use 89 = .ok (.if_icmp .ne 7, 3) := by decide +kernel
theorem dX11_use_92 : decode cX11_use 92 = .ok (.iconst 3, 1) := by decide +kernel
theorem dX11_use_93 : decode cX11_use 93 = .ok (.goto 4, 3) := by decide +kernel
theorem dX11_use_96 : decode cX11_use 96 = .ok (.iconst 2, 1) := by decide +kernel
theorem dX11_use_97 : decode cX11_use 97 = .ok (.istore 6, 2) := by decide +kernel
theorem dX11_use_99 : decode cX11_use 99 = .ok (.iload 5, 2) := by decide +kernel
theorem dX11_use_101 : decode cX11_use 101 = .ok (.iload 6, 2) := by decide +kernel
theorem dX11_use_103 : decode cX11_use 103 = .ok (.if_icmp .eq 6, 3) := by decide +kernel
theorem dX11_use_106 : decode cX11_use 106 = .ok (.bipush (-11), 2) := by decide +kernel
theorem dX11_use_108 : decode cX11_use 108 = .ok (.ireturn, 1) := by decide +kernel
theorem dX11_use_109 : decode cX11_use 109 = .ok (.bipush 100, 2) := by decide +kernel
theorem dX11_use_111 : decode cX11_use 111 = .ok (.iload_n 1, 1) := by decide +kernel
theorem dX11_use_112 : decode cX11_use 112 = .ok (.imul, 1) := by decide +kernel
theorem dX11_use_113 : decode cX11_use 113 = .ok (.istore 7, 2) := by decide +kernel
theorem dX11_use_115 : decode cX11_use 115 = .ok (.iload_n 2, 1) := by decide +kernel
theorem dX11_use_116 : decode cX11_use 116 = .ok (.ifCond .ne 12, 3) := by decide +kernel
theorem dX11_use_119 : decode cX11_use 119 = .ok (.aload_n 0, 1) := by decide +kernel
theorem dX11_use_120 : decode cX11_use 120 = .ok (.getfield 50, 3) := by decide +kernel
theorem dX11_use_123 : decode cX11_use 123 = .ok (.iload 7, 2) := by decide +kernel
theorem dX11_use_125 : decode cX11_use 125 = .ok (.laload, 1) := by decide +kernel
theorem dX11_use_126 : decode cX11_use 126 = .ok (.l2i, 1) := by decide +kernel
theorem dX11_use_127 : decode cX11_use 127 = .ok (.ireturn, 1) := by decide +kernel
theorem dX11_use_128 : decode cX11_use 128 = .ok (.iload_n 2, 1) := by decide +kernel
theorem dX11_use_129 : decode cX11_use 129 = .ok (.iconst 1, 1) := by decide +kernel
theorem dX11_use_130 : decode cX11_use 130 = .ok (.if_icmp .ne 47, 3) := by decide +kernel
theorem dX11_use_133 : decode cX11_use 133 = .ok (.aload_n 0, 1) := by decide +kernel
theorem dX11_use_134 : decode cX11_use 134 = .ok (.getfield 50, 3) := by decide +kernel
theorem dX11_use_137 : decode cX11_use 137 = .ok (.iload 7, 2) := by decide +kernel
theorem dX11_use_139 : decode cX11_use 139 = .ok (.laload, 1) := by decide +kernel
theorem dX11_use_140 : decode cX11_use 140 = .ok (.ldc2_w 116, 3) := by decide +kernel
theorem dX11_use_143 : decode cX11_use 143 = .ok (.lcmp, 1) := by decide +kernel
theorem dX11_use_144 : decode cX11_use 144 = .ok (.ifCond .lt 17, 3) := by decide +kernel
theorem dX11_use_147 : decode cX11_use 147 = .ok (.aload_n 0, 1) := by decide +kernel
theorem dX11_use_148 : decode cX11_use 148 = .ok (.getfield 50, 3) := by decide +kernel
theorem dX11_use_151 : decode cX11_use 151 = .ok (.iload 7, 2) := by decide +kernel
theorem dX11_use_153 : decode cX11_use 153 = .ok (.laload, 1) := by decide +kernel
theorem dX11_use_154 : decode cX11_use 154 = .ok (.ldc2_w 298, 3) := by decide +kernel
theorem dX11_use_157 : decode cX11_use 157 = .ok (.lcmp, 1) := by decide +kernel
theorem dX11_use_158 : decode cX11_use 158 = .ok (.ifCond .le 8, 3) := by decide +kernel
theorem dX11_use_161 : decode cX11_use 161 = .ok (.bipush (-11), 2) := by decide +kernel
theorem dX11_use_163 : decode cX11_use 163 = .ok (.goto 13, 3) := by decide +kernel
theorem dX11_use_166 : decode cX11_use 166 = .ok (.aload_n 0, 1) := by decide +kernel
theorem dX11_use_167 : decode cX11_use 167 = .ok (.getfield 50, 3) := by decide +kernel
theorem dX11_use_170 : decode cX11_use 170 = .ok (.iload 7, 2) := by decide +kernel
theorem dX11_use_172 : decode cX11_use 172 = .ok (.iconst 1, 1) := by decide +kernel
theorem dX11_use_173 : decode cX11_use 173 = .ok (.iadd, 1) := by decide +kernel
theorem dX11_use_174 : decode cX11_use 174 = .ok (.laload, 1) := by decide +kernel
theorem dX11_use_175 : decode cX11_use 175 = .ok (.l2i, 1) := by decide +kernel
theorem dX11_use_176 : decode cX11_use 176 = .ok (.ireturn, 1) := by decide +kernel
theorem dX11_use_177 : decode cX11_use 177 = .ok (.iload_n 2, 1) := by decide +kernel
theorem dX11_use_178 : decode cX11_use 178 = .ok (.bipush 9, 2) := by decide +kernel
theorem dX11_use_180 : decode cX11_use 180 = .ok (.if_icmp .ne 42, 3) := by decide +kernel
theorem dX11_use_183 : decode cX11_use 183 = .ok (.iload_n 3, 1) := by decide +kernel
theorem dX11_use_184 : decode cX11_use 184 = .ok (.ifCond .ge 8, 3) := by decide +kernel
theorem dX11_use_187 : decode cX11_use 187 = .ok (.bipush (-14), 2) := by decide +kernel
theorem dX11_use_189 : decode cX11_use 189 = .ok (.goto 32, 3) := by decide +kernel
theorem dX11_use_192 : decode cX11_use 192 = .ok (.iload 4, 2) := by decide +kernel
theorem dX11_use_194 : decode cX11_use 194 = .ok (.ifCond .lt 20, 3) := by decide +kernel
theorem dX11_use_197 : decode cX11_use 197 = .ok (.iload 4, 2) := by decide +kernel
theorem dX11_use_199 : decode cX11_use 199 = .ok (.iload_n 3, 1) := by decide +kernel
theorem dX11_use_200 : decode cX11_use 200 = .ok (.if_icmp .gt 14, 3) := by decide +kernel
theorem dX11_use_203 : decode cX11_use 203 = .ok (.iload 4, 2) := by decide +kernel
theorem dX11_use_205 : decode cX11_use 205 = .ok (.aload_n 0, 1) := by decide +kernel
theorem dX11_use_206 : decode cX11_use 206 = .ok (.getfield 47, 3) := by decide +kernel
theorem dX11_use_209 : decode cX11_use 209 = .ok (.iload_n 1, 1) := by decide +kernel
theorem dX11_use_210 : decode cX11_use 210 = .ok (.iaload, 1) := by decide +kernel
theorem dX11_use_211 : decode cX11_use 211 = .ok (.if_icmp .le 8, 3) := by decide +kernel
theorem dX11_use_214 : decode cX11_use 214 = .ok (.bipush (-13), 2) := by decide +kernel
theorem dX11_use_216 : decode cX11_use 216 = .ok (.goto 5, 3) := by decide +kernel
theorem dX11_use_219 : decode cX11_use 219 = .ok (.iload 4, 2) := by decide +kernel
theorem dX11_use_221 : decode cX11_use 221 = .ok (.ireturn, 1) := by decide +kernel
theorem dX11_use_222 : decode cX11_use 222 = .ok (.aload_n 0, 1) := by decide +kernel
theorem dX11_use_223 : decode cX11_use 223 = .ok (.iload_n 1, 1) := by decide +kernel
theorem dX11_use_224 : decode cX11_use 224 = .ok (.iload_n 3, 1) := by decide +kernel
theorem dX11_use_225 : decode cX11_use 225 = .ok (.invokevirtual 300, 3) := by decide +kernel
theorem dX11_use_228 : decode cX11_use 228 = .ok (.ifCond .eq 25, 3) := by decide +kernel
theorem dX11_use_231 : decode cX11_use 231 = .ok (.iload_n 2, 1) := by decide +kernel
theorem dX11_use_232 : decode cX11_use 232 = .ok (.bipush 7, 2) := by decide +kernel
theorem dX11_use_234 : decode cX11_use 234 = .ok (.if_icmp .eq 9, 3) := by decide +kernel
theorem dX11_use_237 : decode cX11_use 237 = .ok (.iload_n 2, 1) := by decide +kernel
theorem dX11_use_238 : decode cX11_use 238 = .ok (.bipush 8, 2) := by decide +kernel
theorem dX11_use_240 : decode cX11_use 240 = .ok (.if_icmp .ne 16, 3) := by decide +kernel
theorem dX11_use_243 : decode cX11_use 243 = .ok (.aload_n 0, 1) := by decide +kernel
theorem dX11_use_244 : decode cX11_use 244 = .ok (.iload_n 1, 1) := by decide +kernel
theorem dX11_use_245 : decode cX11_use 245 = .ok (.iload 4, 2) := by decide +kernel
theorem dX11_use_247 : decode cX11_use 247 = .ok (.invokevirtual 300, 3) := by decide +kernel
theorem dX11_use_250 : decode cX11_use 250 = .ok (.ifCond .ne 6, 3) := by decide +kernel
theorem dX11_use_253 : decode cX11_use 253 = .ok (.bipush (-13), 2) := by decide +kernel
theorem dX11_use_255 : decode cX11_use 255 = .ok (.ireturn, 1) := by decide +kernel
theorem dX11_use_256 : decode cX11_use 256 = .ok (.aload_n 0, 1) := by decide +kernel
theorem dX11_use_257 : decode cX11_use 257 = .ok (.getfield 50, 3) := by decide +kernel
theorem dX11_use_260 : decode cX11_use 260 = .ok (.iload 7, 2) := by decide +kernel
theorem dX11_use_262 : decode cX11_use 262 = .ok (.iload_n 3, 1) := by decide +kernel
theorem dX11_use_263 : decode cX11_use 263 = .ok (.iadd, 1) := by decide +kernel
theorem dX11_use_264 : decode cX11_use 264 = .ok (.laload, 1) := by decide +kernel
theorem dX11_use_265 : decode cX11_use 265 = .ok (.lstore 8, 2) := by decide +kernel
theorem dX11_use_267 : decode cX11_use 267 = .ok (.iload_n 2, 1) := by decide +kernel
theorem dX11_use_268 : decode cX11_use 268 = .ok (.bipush 6, 2) := by decide +kernel
theorem dX11_use_270 : decode cX11_use 270 = .ok (.if_icmp .ge 7, 3) := by decide +kernel
theorem dX11_use_273 : decode cX11_use 273 = .ok (.lload 8, 2) := by decide +kernel
theorem dX11_use_275 : decode cX11_use 275 = .ok (.l2i, 1) := by decide +kernel
theorem dX11_use_276 : decode cX11_use 276 = .ok (.ireturn, 1) := by decide +kernel
theorem dX11_use_277 : decode cX11_use 277 = .ok (.iload_n 2, 1) := by decide +kernel
theorem dX11_use_278 : decode cX11_use 278 = .ok (.bipush 6, 2) := by decide +kernel
theorem dX11_use_280 : decode cX11_use 280 = .ok (.if_icmp .ne 29, 3) := by decide +kernel
theorem dX11_use_283 : decode cX11_use 283 = .ok (.aload_n 0, 1) := by decide +kernel
theorem dX11_use_284 : decode cX11_use 284 = .ok (.bipush 6, 2) := by decide +kernel
theorem dX11_use_286 : decode cX11_use 286 = .ok (.iload_n 1, 1) := by decide +kernel
theorem dX11_use_287 : decode cX11_use 287 = .ok (.iload_n 3, 1) := by decide +kernel
theorem dX11_use_288 : decode cX11_use 288 = .ok (.lload 8, 2) := by decide +kernel
theorem dX11_use_290 : decode cX11_use 290 = .ok (.invokevirtual 160, 3) := by decide +kernel
theorem dX11_use_293 : decode cX11_use 293 = .ok (.aload_n 0, 1) := by decide +kernel
theorem dX11_use_294 : decode cX11_use 294 = .ok (.getfield 50, 3) := by decide +kernel
theorem dX11_use_297 : decode cX11_use 297 = .ok (.iload 7, 2) := by decide +kernel
theorem dX11_use_299 : decode cX11_use 299 = .ok (.iload_n 3, 1) := by decide +kernel
theorem dX11_use_300 : decode cX11_use 300 = .ok (.iadd, 1) := by decide +kernel
theorem dX11_use_301 : decode cX11_use 301 = .ok (.iload 4, 2) := by decide +kernel
theorem dX11_use_303 : decode cX11_use 303 = .ok (.i2l, 1) := by decide +kernel
theorem dX11_use_304 : decode cX11_use 304 = .ok (.lastore, 1) := by decide +kernel
theorem dX11_use_305 : decode cX11_use 305 = .ok (.lload 8, 2) := by decide +kernel
theorem dX11_use_307 : decode cX11_use 307 = .ok (.l2i, 1) := by decide +kernel
theorem dX11_use_308 : decode cX11_use 308 = .ok (.ireturn, 1) := by decide +kernel
theorem dX11_use_309 : decode cX11_use 309 = .ok (.aload_n 0, 1) := by decide +kernel
theorem dX11_use_310 : decode cX11_use 310 = .ok (.getfield 50, 3) := by decide +kernel
theorem dX11_use_313 : decode cX11_use 313 = .ok (.iload 7, 2) := by decide +kernel
theorem dX11_use_315 : decode cX11_use 315 = .ok (.iload 4, 2) := by decide +kernel
theorem dX11_use_317 : decode cX11_use 317 = .ok (.iadd, 1) := by decide +kernel
theorem dX11_use_318 : decode cX11_use 318 = .ok (.laload, 1) := by decide +kernel
theorem dX11_use_319 : decode cX11_use 319 = .ok (.lstore 10, 2) := by decide +kernel
theorem dX11_use_321 : decode cX11_use 321 = .ok (.lload 10, 2) := by decide +kernel
theorem dX11_use_323 : decode cX11_use 323 = .ok (.lconst 0, 1) := by decide +kernel
theorem dX11_use_324 : decode cX11_use 324 = .ok (.lcmp, 1) := by decide +kernel
theorem dX11_use_325 : decode cX11_use 325 = .ok (.ifCond .ne 6, 3) := by decide +kernel
theorem dX11_use_328 : decode cX11_use 328 = .ok (.bipush (-16), 2) := by decide +kernel
theorem dX11_use_330 : decode cX11_use 330 = .ok (.ireturn, 1) := by decide +kernel
theorem dX11_use_331 : decode cX11_use 331 = .ok (.iload_n 2, 1) := by decide +kernel
theorem dX11_use_332 : decode cX11_use 332 = .ok (.bipush 7, 2) := by decide +kernel
theorem dX11_use_334 : decode cX11_use 334 = .ok (.if_icmp .ne 15, 3) := by decide +kernel
theorem dX11_use_337 : decode cX11_use 337 = .ok (.aload_n 0, 1) := by decide +kernel
theorem dX11_use_338 : decode cX11_use 338 = .ok (.lload 8, 2) := by decide +kernel
theorem dX11_use_340 : decode cX11_use 340 = .ok (.lload 10, 2) := by decide +kernel
theorem dX11_use_342 : decode cX11_use 342 = .ok (.invokevirtual 240, 3) := by decide +kernel
theorem dX11_use_345 : decode cX11_use 345 = .ok (.l2i, 1) := by decide +kernel
theorem dX11_use_346 : decode cX11_use 346 = .ok (.goto 22, 3) := by decide +kernel
theorem dX11_use_349 : decode cX11_use 349 = .ok (.lload 10, 2) := by decide +kernel
theorem dX11_use_351 : decode cX11_use 351 = .ok (.ldc2_w 202, 3) := by decide +kernel
theorem dX11_use_354 : decode cX11_use 354 = .ok (.lcmp, 1) := by decide +kernel
theorem dX11_use_355 : decode cX11_use 355 = .ok (.ifCond .ne 7, 3) := by decide +kernel
theorem dX11_use_358 : decode cX11_use 358 = .ok (.iconst 0, 1) := by decide +kernel
theorem dX11_use_359 : decode cX11_use 359 = .ok (.goto 9, 3) := by decide +kernel
theorem dX11_use_362 : decode cX11_use 362 = .ok (.lload 8, 2) := by decide +kernel
theorem dX11_use_364 : decode cX11_use 364 = .ok (.lload 10, 2) := by decide +kernel
theorem dX11_use_366 : decode cX11_use 366 = .ok (.lrem, 1) := by decide +kernel
theorem dX11_use_367 : decode cX11_use 367 = .ok (.l2i, 1) := by decide +kernel
theorem dX11_use_368 : decode cX11_use 368 = .ok (.ireturn, 1) := by decide +kernel
