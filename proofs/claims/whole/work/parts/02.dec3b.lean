theorem dX11_plainQuotient_52 : decode cX11_plainQuotient 52 = .ok (.ifCond .ne 29, 3) := by decide +kernel
theorem dX11_plainQuotient_55 : decode cX11_plainQuotient 55 = .ok (.aload_n 0, 1) := by decide +kernel
theorem dX11_plainQuotient_56 : decode cX11_plainQuotient 56 = .ok (.getfield 183, 3) := by decide +kernel
theorem dX11_plainQuotient_59 : decode cX11_plainQuotient 59 = .ok (.ifCond .le 19, 3) := by decide +kernel
theorem dX11_plainQuotient_62 : decode cX11_plainQuotient 62 = .ok (.aload_n 0, 1) := by decide +kernel
theorem dX11_plainQuotient_63 : decode cX11_plainQuotient 63 = .ok (.iload_n 1, 1) := by decide +kernel
theorem dX11_plainQuotient_64 : decode cX11_plainQuotient 64 = .ok (.iconst 0, 1) := by decide +kernel
theorem dX11_plainQuotient_65 : decode cX11_plainQuotient 65 = .ok (.iload 4, 2) := by decide +kernel
theorem dX11_plainQuotient_67 : decode cX11_plainQuotient 67 = .ok (.aload_n 0, 1) := by decide +kernel
theorem dX11_plainQuotient_68 : decode cX11_plainQuotient 68 = .ok (.getfield 183, 3) := by decide +kernel
theorem dX11_plainQuotient_71 : decode cX11_plainQuotient 71 = .ok (.i2l, 1) := by decide +kernel
theorem dX11_plainQuotient_72 : decode cX11_plainQuotient 72 = .ok (.invokevirtual 167, 3) := by decide +kernel
theorem dX11_plainQuotient_75 : decode cX11_plainQuotient 75 = .ok (.goto 5, 3) := by decide +kernel
theorem dX11_plainQuotient_78 : decode cX11_plainQuotient 78 = .ok (.iload 4, 2) := by decide +kernel
theorem dX11_plainQuotient_80 : decode cX11_plainQuotient 80 = .ok (.ireturn, 1) := by decide +kernel
theorem dX11_plainQuotient_81 : decode cX11_plainQuotient 81 = .ok (.aload_n 0, 1) := by decide +kernel
theorem dX11_plainQuotient_82 : decode cX11_plainQuotient 82 = .ok (.iload_n 1, 1) := by decide +kernel
theorem dX11_plainQuotient_83 : decode cX11_plainQuotient 83 = .ok (.bipush 6, 2) := by decide +kernel
theorem dX11_plainQuotient_85 : decode cX11_plainQuotient 85 = .ok (.iload_n 2, 1) := by decide +kernel
theorem dX11_plainQuotient_86 : decode cX11_plainQuotient 86 = .ok (.iload 4, 2) := by decide +kernel
theorem dX11_plainQuotient_88 : decode cX11_plainQuotient 88 = .ok (.i2l, 1) := by decide +kernel
theorem dX11_plainQuotient_89 : decode cX11_plainQuotient 89 = .ok (.invokevirtual 167, 3) := by decide +kernel
theorem dX11_plainQuotient_92 : decode cX11_plainQuotient 92 = .ok (.istore 5, 2) := by decide +kernel
theorem dX11_plainQuotient_94 : decode cX11_plainQuotient 94 = .ok (.aload_n 0, 1) := by decide +kernel
theorem dX11_plainQuotient_95 : decode cX11_plainQuotient 95 = .ok (.iload_n 1, 1) := by decide +kernel
theorem dX11_plainQuotient_96 : decode cX11_plainQuotient 96 = .ok (.iconst 0, 1) := by decide +kernel
theorem dX11_plainQuotient_97 : decode cX11_plainQuotient 97 = .ok (.iload 5, 2) := by decide +kernel
theorem dX11_plainQuotient_99 : decode cX11_plainQuotient 99 = .ok (.lconst 1, 1) := by decide +kernel
theorem dX11_plainQuotient_100 : decode cX11_plainQuotient 100 = .ok (.invokevirtual 167, 3) := by decide +kernel
theorem dX11_plainQuotient_103 : decode cX11_plainQuotient 103 = .ok (.istore 6, 2) := by decide +kernel
theorem dX11_plainQuotient_105 : decode cX11_plainQuotient 105 = .ok (.aload_n 0, 1) := by decide +kernel
theorem dX11_plainQuotient_106 : decode cX11_plainQuotient 106 = .ok (.iload_n 1, 1) := by decide +kernel
theorem dX11_plainQuotient_107 : decode cX11_plainQuotient 107 = .ok (.iconst 5, 1) := by decide +kernel
theorem dX11_plainQuotient_108 : decode cX11_plainQuotient 108 = .ok (.iload 6, 2) := by decide +kernel
theorem dX11_plainQuotient_110 : decode cX11_plainQuotient 110 = .ok (.iload 4, 2) := by decide +kernel
theorem dX11_plainQuotient_112 : decode cX11_plainQuotient 112 = .ok (.i2l, 1) := by decide +kernel
theorem dX11_plainQuotient_113 : decode cX11_plainQuotient 113 = .ok (.invokevirtual 167, 3) := by decide +kernel
theorem dX11_plainQuotient_116 : decode cX11_plainQuotient 116 = .ok (.istore 7, 2) := by decide +kernel
theorem dX11_plainQuotient_118 : decode cX11_plainQuotient 118 = .ok (.aload_n 0, 1) := by decide +kernel
theorem dX11_plainQuotient_119 : decode cX11_plainQuotient 119 = .ok (.getfield 183, 3) := by decide +kernel
theorem dX11_plainQuotient_122 : decode cX11_plainQuotient 122 = .ok (.iconst 1, 1) := by decide +kernel
theorem dX11_plainQuotient_123 : decode cX11_plainQuotient 123 = .ok (.if_icmp .le 21, 3) := by decide +kernel
theorem dX11_plainQuotient_126 : decode cX11_plainQuotient 126 = .ok (.aload_n 0, 1) := by decide +kernel
theorem dX11_plainQuotient_127 : decode cX11_plainQuotient 127 = .ok (.iload_n 1, 1) := by decide +kernel
theorem dX11_plainQuotient_128 : decode cX11_plainQuotient 128 = .ok (.iconst 0, 1) := by decide +kernel
theorem dX11_plainQuotient_129 : decode cX11_plainQuotient 129 = .ok (.iload 7, 2) := by decide +kernel
theorem dX11_plainQuotient_131 : decode cX11_plainQuotient 131 = .ok (.aload_n 0, 1) := by decide +kernel
theorem dX11_plainQuotient_132 : decode cX11_plainQuotient 132 = .ok (.getfield 183, 3) := by decide +kernel
theorem dX11_plainQuotient_135 : decode cX11_plainQuotient 135 = .ok (.iconst 1, 1) := by decide +kernel
theorem dX11_plainQuotient_136 : decode cX11_plainQuotient 136 = .ok (.isub, 1) := by decide +kernel
theorem dX11_plainQuotient_137 : decode cX11_plainQuotient 137 = .ok (.i2l, 1) := by decide +kernel
theorem dX11_plainQuotient_138 : decode cX11_plainQuotient 138 = .ok (.invokevirtual 167, 3) := by decide +kernel
theorem dX11_plainQuotient_141 : decode cX11_plainQuotient 141 = .ok (.goto 5, 3) := by decide +kernel
theorem dX11_plainQuotient_144 : decode cX11_plainQuotient 144 = .ok (.iload 7, 2) := by decide +kernel
theorem dX11_plainQuotient_146 : decode cX11_plainQuotient 146 = .ok (.ireturn, 1) := by decide +kernel
theorem dX11_plainWhole_0 : decode cX11_plainWhole 0 = .ok (.aload_n 0, 1) := by decide +kernel
theorem dX11_plainWhole_1 : decode cX11_plainWhole 1 = .ok (.getfield 7, 3) := by decide +kernel
theorem dX11_plainWhole_4 : decode cX11_plainWhole 4 = .ok (.iload_n 1, 1) := by decide +kernel
theorem dX11_plainWhole_5 : decode cX11_plainWhole 5 = .ok (.iaload, 1) := by decide +kernel
theorem dX11_plainWhole_6 : decode cX11_plainWhole 6 = .ok (.istore_n 3, 1) := by decide +kernel
theorem dX11_plainWhole_7 : decode cX11_plainWhole 7 = .ok (.aload_n 0, 1) := by decide +kernel
theorem dX11_plainWhole_8 : decode cX11_plainWhole 8 = .ok (.iload_n 1, 1) := by decide +kernel
theorem dX11_plainWhole_9 : decode cX11_plainWhole 9 = .ok (.iconst 4, 1) := by decide +kernel
theorem dX11_plainWhole_10 : decode cX11_plainWhole 10 = .ok (.iload_n 2, 1) := by decide +kernel
theorem dX11_plainWhole_11 : decode cX11_plainWhole 11 = .ok (.aload_n 0, 1) := by decide +kernel
theorem dX11_plainWhole_12 : decode cX11_plainWhole 12 = .ok (.getfield 177, 3) := by decide +kernel
theorem dX11_plainWhole_15 : decode cX11_plainWhole 15 = .ok (.invokestatic 198, 3) := by decide +kernel
theorem dX11_plainWhole_18 : decode cX11_plainWhole 18 = .ok (.invokevirtual 167, 3) := by decide +kernel
theorem dX11_plainWhole_21 : decode cX11_plainWhole 21 = .ok (.istore 4, 2) := by decide +kernel
theorem dX11_plainWhole_23 : decode cX11_plainWhole 23 = .ok (.aload_n 0, 1) := by decide +kernel
theorem dX11_plainWhole_24 : decode cX11_plainWhole 24 = .ok (.getfield 174, 3) := by decide +kernel
theorem dX11_plainWhole_27 : decode cX11_plainWhole 27 = .ok (.ifCond .le 19, 3) := by decide +kernel
theorem dX11_plainWhole_30 : decode cX11_plainWhole 30 = .ok (.aload_n 0, 1) := by decide +kernel
theorem dX11_plainWhole_31 : decode cX11_plainWhole 31 = .ok (.iload_n 1, 1) := by decide +kernel
theorem dX11_plainWhole_32 : decode cX11_plainWhole 32 = .ok (.bipush 10, 2) := by decide +kernel
theorem dX11_plainWhole_34 : decode cX11_plainWhole 34 = .ok (.iload 4, 2) := by decide +kernel
theorem dX11_plainWhole_36 : decode cX11_plainWhole 36 = .ok (.aload_n 0, 1) := by decide +kernel
theorem dX11_plainWhole_37 : decode cX11_plainWhole 37 = .ok (.getfield 174, 3) := by decide +kernel
theorem dX11_plainWhole_40 : decode cX11_plainWhole 40 = .ok (.i2l, 1) := by decide +kernel
theorem dX11_plainWhole_41 : decode cX11_plainWhole 41 = .ok (.invokevirtual 167, 3) := by decide +kernel
theorem dX11_plainWhole_44 : decode cX11_plainWhole 44 = .ok (.istore 4, 2) := by decide +kernel
theorem dX11_plainWhole_46 : decode cX11_plainWhole 46 = .ok (.aload_n 0, 1) := by decide +kernel
theorem dX11_plainWhole_47 : decode cX11_plainWhole 47 = .ok (.iload_n 1, 1) := by decide +kernel
theorem dX11_plainWhole_48 : decode cX11_plainWhole 48 = .ok (.bipush 11, 2) := by decide +kernel
theorem dX11_plainWhole_50 : decode cX11_plainWhole 50 = .ok (.iload 4, 2) := by decide +kernel
theorem dX11_plainWhole_52 : decode cX11_plainWhole 52 = .ok (.aload_n 0, 1) := by decide +kernel
theorem dX11_plainWhole_53 : decode cX11_plainWhole 53 = .ok (.ldc2_w 202, 3) := by decide +kernel
theorem dX11_plainWhole_56 : decode cX11_plainWhole 56 = .ok (.iload_n 3, 1) := by decide +kernel
theorem dX11_plainWhole_57 : decode cX11_plainWhole 57 = .ok (.invokestatic 105, 3) := by decide +kernel
theorem dX11_plainWhole_60 : decode cX11_plainWhole 60 = .ok (.aload_n 0, 1) := by decide +kernel
theorem dX11_plainWhole_61 : decode cX11_plainWhole 61 = .ok (.getfield 171, 3) := by decide +kernel
theorem dX11_plainWhole_64 : decode cX11_plainWhole 64 = .ok (.invokevirtual 180, 3) := by decide +kernel
theorem dX11_plainWhole_67 : decode cX11_plainWhole 67 = .ok (.invokevirtual 167, 3) := by decide +kernel
theorem dX11_plainWhole_70 : decode cX11_plainWhole 70 = .ok (.ireturn, 1) := by decide +kernel
theorem dX11_restOf_0 : decode cX11_restOf 0 = .ok (.aload_n 0, 1) := by decide +kernel
theorem dX11_restOf_1 : decode cX11_restOf 1 = .ok (.iload_n 1, 1) := by decide +kernel
theorem dX11_restOf_2 : decode cX11_restOf 2 = .ok (.iconst 4, 1) := by decide +kernel
theorem dX11_restOf_3 : decode cX11_restOf 3 = .ok (.iload_n 2, 1) := by decide +kernel
theorem dX11_restOf_4 : decode cX11_restOf 4 = .ok (.lload_n 3, 1) := by decide +kernel
theorem dX11_restOf_5 : decode cX11_restOf 5 = .ok (.invokevirtual 167, 3) := by decide +kernel
theorem dX11_restOf_8 : decode cX11_restOf 8 = .ok (.istore 5, 2) := by decide +kernel
theorem dX11_restOf_10 : decode cX11_restOf 10 = .ok (.aload_n 0, 1) := by decide +kernel
theorem dX11_restOf_11 : decode cX11_restOf 11 = .ok (.iload_n 1, 1) := by decide +kernel
theorem dX11_restOf_12 : decode cX11_restOf 12 = .ok (.bipush 6, 2) := by decide +kernel
theorem dX11_restOf_14 : decode cX11_restOf 14 = .ok (.iconst 0, 1) := by decide +kernel
theorem dX11_restOf_15 : decode cX11_restOf 15 = .ok (.iload 5, 2) := by decide +kernel
theorem dX11_restOf_17 : decode cX11_restOf 17 = .ok (.i2l, 1) := by decide +kernel
theorem dX11_restOf_18 : decode cX11_restOf 18 = .ok (.invokevirtual 167, 3) := by decide +kernel
theorem dX11_restOf_21 : decode cX11_restOf 21 = .ok (.ireturn, 1) := by decide +kernel
theorem dX11_writePlain_0 : decode cX11_writePlain 0 = .ok (.iload_n 2, 1) := by decide +kernel
theorem dX11_writePlain_1 : decode cX11_writePlain 1 = .ok (.tableswitch 91 0 4 #[35, 35, 42, 42, 84], 35) := by decide +kernel
theorem dX11_writePlain_36 : decode cX11_writePlain 36 = .ok (.aload_n 0, 1) := by decide +kernel
theorem dX11_writePlain_37 : decode cX11_writePlain 37 = .ok (.iload_n 1, 1) := by decide +kernel
theorem dX11_writePlain_38 : decode cX11_writePlain 38 = .ok (.iconst 0, 1) := by decide +kernel
theorem dX11_writePlain_39 : decode cX11_writePlain 39 = .ok (.invokevirtual 204, 3) := by decide +kernel
theorem dX11_writePlain_42 : decode cX11_writePlain 42 = .ok (.ireturn, 1) := by decide +kernel
theorem dX11_writePlain_43 : decode cX11_writePlain 43 = .ok (.aload_n 0, 1) := by decide +kernel
theorem dX11_writePlain_44 : decode cX11_writePlain 44 = .ok (.getfield 177, 3) := by decide +kernel
theorem dX11_writePlain_47 : decode cX11_writePlain 47 = .ok (.lconst 1, 1) := by decide +kernel
theorem dX11_writePlain_48 : decode cX11_writePlain 48 = .ok (.lcmp, 1) := by decide +kernel
theorem dX11_writePlain_49 : decode cX11_writePlain 49 = .ok (.ifCond .ne 20, 3) := by decide +kernel
theorem dX11_writePlain_52 : decode cX11_writePlain 52 = .ok (.aload_n 0, 1) := by decide +kernel
theorem dX11_writePlain_53 : decode cX11_writePlain 53 = .ok (.iload_n 1, 1) := by decide +kernel
theorem dX11_writePlain_54 : decode cX11_writePlain 54 = .ok (.bipush 9, 2) := by decide +kernel
theorem dX11_writePlain_56 : decode cX11_writePlain 56 = .ok (.iconst 0, 1) := by decide +kernel
theorem dX11_writePlain_57 : decode cX11_writePlain 57 = .ok (.aload_n 0, 1) := by decide +kernel
theorem dX11_writePlain_58 : decode cX11_writePlain 58 = .ok (.getfield 171, 3) := by decide +kernel
theorem dX11_writePlain_61 : decode cX11_writePlain 61 = .ok (.lconst 1, 1) := by decide +kernel
theorem dX11_writePlain_62 : decode cX11_writePlain 62 = .ok (.lsub, 1) := by decide +kernel
theorem dX11_writePlain_63 : decode cX11_writePlain 63 = .ok (.invokevirtual 167, 3) := by decide +kernel
theorem dX11_writePlain_66 : decode cX11_writePlain 66 = .ok (.goto 18, 3) := by decide +kernel
theorem dX11_writePlain_69 : decode cX11_writePlain 69 = .ok (.aload_n 0, 1) := by decide +kernel
theorem dX11_writePlain_70 : decode cX11_writePlain 70 = .ok (.iload_n 1, 1) := by decide +kernel
theorem dX11_writePlain_71 : decode cX11_writePlain 71 = .ok (.aload_n 0, 1) := by decide +kernel
theorem dX11_writePlain_72 : decode cX11_writePlain 72 = .ok (.iload_n 1, 1) := by decide +kernel
theorem dX11_writePlain_73 : decode cX11_writePlain 73 = .ok (.iconst 0, 1) := by decide +kernel
theorem dX11_writePlain_74 : decode cX11_writePlain 74 = .ok (.invokevirtual 204, 3) := by decide +kernel
theorem dX11_writePlain_77 : decode cX11_writePlain 77 = .ok (.aload_n 0, 1) := by decide +kernel
theorem dX11_writePlain_78 : decode cX11_writePlain 78 = .ok (.getfield 171, 3) := by decide +kernel
theorem dX11_writePlain_81 : decode cX11_writePlain 81 = .ok (.invokevirtual 208, 3) := by decide +kernel
theorem dX11_writePlain_84 : decode cX11_writePlain 84 = .ok (.ireturn, 1) := by decide +kernel
theorem dX11_writePlain_85 : decode cX11_writePlain 85 = .ok (.aload_n 0, 1) := by decide +kernel
theorem dX11_writePlain_86 : decode cX11_writePlain 86 = .ok (.iload_n 1, 1) := by decide +kernel
theorem dX11_writePlain_87 : decode cX11_writePlain 87 = .ok (.iconst 0, 1) := by decide +kernel
theorem dX11_writePlain_88 : decode cX11_writePlain 88 = .ok (.invokevirtual 212, 3) := by decide +kernel
theorem dX11_writePlain_91 : decode cX11_writePlain 91 = .ok (.ireturn, 1) := by decide +kernel
theorem dX11_writePlain_92 : decode cX11_writePlain 92 = .ok (.aload_n 0, 1) := by decide +kernel
theorem dX11_writePlain_93 : decode cX11_writePlain 93 = .ok (.getfield 174, 3) := by decide +kernel
theorem dX11_writePlain_96 : decode cX11_writePlain 96 = .ok (.ifCond .gt 12, 3) := by decide +kernel
theorem dX11_writePlain_99 : decode cX11_writePlain 99 = .ok (.aload_n 0, 1) := by decide +kernel
theorem dX11_writePlain_100 : decode cX11_writePlain 100 = .ok (.getfield 177, 3) := by decide +kernel
theorem dX11_writePlain_103 : decode cX11_writePlain 103 = .ok (.lconst 1, 1) := by decide +kernel
theorem dX11_writePlain_104 : decode cX11_writePlain 104 = .ok (.lcmp, 1) := by decide +kernel
theorem dX11_writePlain_105 : decode cX11_writePlain 105 = .ok (.ifCond .ne 18, 3) := by decide +kernel
theorem dX11_writePlain_108 : decode cX11_writePlain 108 = .ok (.aload_n 0, 1) := by decide +kernel
theorem dX11_writePlain_109 : decode cX11_writePlain 109 = .ok (.iload_n 1, 1) := by decide +kernel
theorem dX11_writePlain_110 : decode cX11_writePlain 110 = .ok (.iconst 0, 1) := by decide +kernel
theorem dX11_writePlain_111 : decode cX11_writePlain 111 = .ok (.iconst 0, 1) := by decide +kernel
theorem dX11_writePlain_112 : decode cX11_writePlain 112 = .ok (.aload_n 0, 1) := by decide +kernel
theorem dX11_writePlain_113 : decode cX11_writePlain 113 = .ok (.getfield 174, 3) := by decide +kernel
theorem dX11_writePlain_116 : decode cX11_writePlain 116 = .ok (.i2l, 1) := by decide +kernel
theorem dX11_writePlain_117 : decode cX11_writePlain 117 = .ok (.invokevirtual 167, 3) := by decide +kernel
theorem dX11_writePlain_120 : decode cX11_writePlain 120 = .ok (.goto 4, 3) := by decide +kernel
theorem dX11_writePlain_123 : decode cX11_writePlain 123 = .ok (.iconst 0, 1) := by decide +kernel
theorem dX11_writePlain_124 : decode cX11_writePlain 124 = .ok (.istore_n 3, 1) := by decide +kernel
theorem dX11_writePlain_125 : decode cX11_writePlain 125 = .ok (.aload_n 0, 1) := by decide +kernel
theorem dX11_writePlain_126 : decode cX11_writePlain 126 = .ok (.getfield 177, 3) := by decide +kernel
theorem dX11_writePlain_129 : decode cX11_writePlain 129 = .ok (.lconst 1, 1) := by decide +kernel
theorem dX11_writePlain_130 : decode cX11_writePlain 130 = .ok (.lcmp, 1) := by decide +kernel
theorem dX11_writePlain_131 : decode cX11_writePlain 131 = .ok (.ifCond .ne 7, 3) := by decide +kernel
theorem dX11_writePlain_134 : decode cX11_writePlain 134 = .ok (.iload_n 3, 1) := by decide +kernel
theorem dX11_writePlain_135 : decode cX11_writePlain 135 = .ok (.goto 17, 3) := by decide +kernel
theorem dX11_writePlain_138 : decode cX11_writePlain 138 = .ok (.aload_n 0, 1) := by decide +kernel
theorem dX11_writePlain_139 : decode cX11_writePlain 139 = .ok (.iload_n 1, 1) := by decide +kernel
theorem dX11_writePlain_140 : decode cX11_writePlain 140 = .ok (.iconst 4, 1) := by decide +kernel
theorem dX11_writePlain_141 : decode cX11_writePlain 141 = .ok (.iload_n 3, 1) := by decide +kernel
theorem dX11_writePlain_142 : decode cX11_writePlain 142 = .ok (.aload_n 0, 1) := by decide +kernel
theorem dX11_writePlain_143 : decode cX11_writePlain 143 = .ok (.getfield 177, 3) := by decide +kernel
theorem dX11_writePlain_146 : decode cX11_writePlain 146 = .ok (.invokestatic 198, 3) := by decide +kernel
theorem dX11_writePlain_149 : decode cX11_writePlain 149 = .ok (.invokevirtual 167, 3) := by decide +kernel
theorem dX11_writePlain_152 : decode cX11_writePlain 152 = .ok (.ireturn, 1) := by decide +kernel
theorem dX11_signedQuotient_0 : decode cX11_signedQuotient 0 = .ok (.aload_n 0, 1) := by decide +kernel
theorem dX11_signedQuotient_1 : decode cX11_signedQuotient 1 = .ok (.getfield 7, 3) := by decide +kernel
theorem dX11_signedQuotient_4 : decode cX11_signedQuotient 4 = .ok (.iload_n 1, 1) := by decide +kernel
theorem dX11_signedQuotient_5 : decode cX11_signedQuotient 5 = .ok (.iaload, 1) := by decide +kernel
theorem dX11_signedQuotient_6 : decode cX11_signedQuotient 6 = .ok (.istore_n 3, 1) := by decide +kernel
theorem dX11_signedQuotient_7 : decode cX11_signedQuotient 7 = .ok (.aload_n 0, 1) := by decide +kernel
theorem dX11_signedQuotient_8 : decode cX11_signedQuotient 8 = .ok (.getfield 171, 3) := by decide +kernel
theorem dX11_signedQuotient_11 : decode cX11_signedQuotient 11 = .ok (.lconst 1, 1) := by decide +kernel
theorem dX11_signedQuotient_12 : decode cX11_signedQuotient 12 = .ok (.lcmp, 1) := by decide +kernel
theorem dX11_signedQuotient_13 : decode cX11_signedQuotient 13 = .ok (.ifCond .ne 28, 3) := by decide +kernel
theorem dX11_signedQuotient_16 : decode cX11_signedQuotient 16 = .ok (.iload_n 2, 1) := by decide +kernel
theorem dX11_signedQuotient_17 : decode cX11_signedQuotient 17 = .ok (.ifCond .eq 15, 3) := by decide +kernel
theorem dX11_signedQuotient_20 : decode cX11_signedQuotient 20 = .ok (.aload_n 0, 1) := by decide +kernel
theorem dX11_signedQuotient_21 : decode cX11_signedQuotient 21 = .ok (.iload_n 1, 1) := by decide +kernel
theorem dX11_signedQuotient_22 : decode cX11_signedQuotient 22 = .ok (.bipush 7, 2) := by decide +kernel
theorem dX11_signedQuotient_24 : decode cX11_signedQuotient 24 = .ok (.iconst 0, 1) := by decide +kernel
theorem dX11_signedQuotient_25 : decode cX11_signedQuotient 25 = .ok (.lconst 0, 1) := by decide +kernel
theorem dX11_signedQuotient_26 : decode cX11_signedQuotient 26 = .ok (.invokevirtual 167, 3) := by decide +kernel
theorem dX11_signedQuotient_29 : decode cX11_signedQuotient 29 = .ok (.goto 11, 3) := by decide +kernel
theorem dX11_signedQuotient_32 : decode cX11_signedQuotient 32 = .ok (.aload_n 0, 1) := by decide +kernel
theorem dX11_signedQuotient_33 : decode cX11_signedQuotient 33 = .ok (.iload_n 1, 1) := by decide +kernel
theorem dX11_signedQuotient_34 : decode cX11_signedQuotient 34 = .ok (.iconst 0, 1) := by decide +kernel
theorem dX11_signedQuotient_35 : decode cX11_signedQuotient 35 = .ok (.iconst 0, 1) := by decide +kernel
theorem dX11_signedQuotient_36 : decode cX11_signedQuotient 36 = .ok (.lconst 0, 1) := by decide +kernel
theorem dX11_signedQuotient_37 : decode cX11_signedQuotient 37 = .ok (.invokevirtual 167, 3) := by decide +kernel
theorem dX11_signedQuotient_40 : decode cX11_signedQuotient 40 = .ok (.ireturn, 1) := by decide +kernel
theorem dX11_signedQuotient_41 : decode cX11_signedQuotient 41 = .ok (.aload_n 0, 1) := by decide +kernel
theorem dX11_signedQuotient_42 : decode cX11_signedQuotient 42 = .ok (.getfield 177, 3) := by decide +kernel
theorem dX11_signedQuotient_45 : decode cX11_signedQuotient 45 = .ok (.lconst 1, 1) := by decide +kernel
theorem dX11_signedQuotient_46 : decode cX11_signedQuotient 46 = .ok (.lcmp, 1) := by decide +kernel
theorem dX11_signedQuotient_47 : decode cX11_signedQuotient 47 = .ok (.ifCond .ne 63, 3) := by decide +kernel
theorem dX11_signedQuotient_50 : decode cX11_signedQuotient 50 = .ok (.aload_n 0, 1) := by decide +kernel
theorem dX11_signedQuotient_51 : decode cX11_signedQuotient 51 = .ok (.iload_n 1, 1) := by decide +kernel
theorem dX11_signedQuotient_52 : decode cX11_signedQuotient 52 = .ok (.iconst 1, 1) := by decide +kernel
theorem dX11_signedQuotient_53 : decode cX11_signedQuotient 53 = .ok (.iconst 0, 1) := by decide +kernel
theorem dX11_signedQuotient_54 : decode cX11_signedQuotient 54 = .ok (.iload_n 3, 1) := by decide +kernel
theorem dX11_signedQuotient_55 : decode cX11_signedQuotient 55 = .ok (.iconst 1, 1) := by decide +kernel
theorem dX11_signedQuotient_56 : decode cX11_signedQuotient 56 = .ok (.isub, 1) := by decide +kernel
theorem dX11_signedQuotient_57 : decode cX11_signedQuotient 57 = .ok (.i2l, 1) := by decide +kernel
theorem dX11_signedQuotient_58 : decode cX11_signedQuotient 58 = .ok (.invokevirtual 167, 3) := by decide +kernel
theorem dX11_signedQuotient_61 : decode cX11_signedQuotient 61 = .ok (.istore 5, 2) := by decide +kernel
theorem dX11_signedQuotient_63 : decode cX11_signedQuotient 63 = .ok (.aload_n 0, 1) := by decide +kernel
theorem dX11_signedQuotient_64 : decode cX11_signedQuotient 64 = .ok (.iload_n 1, 1) := by decide +kernel
theorem dX11_signedQuotient_65 : decode cX11_signedQuotient 65 = .ok (.iconst 0, 1) := by decide +kernel
theorem dX11_signedQuotient_66 : decode cX11_signedQuotient 66 = .ok (.iload 5, 2) := by decide +kernel
theorem dX11_signedQuotient_68 : decode cX11_signedQuotient 68 = .ok (.iload_n 3, 1) := by decide +kernel
theorem dX11_signedQuotient_69 : decode cX11_signedQuotient 69 = .ok (.aload_n 0, 1) := by decide +kernel
theorem dX11_signedQuotient_70 : decode cX11_signedQuotient 70 = .ok (.getfield 174, 3) := by decide +kernel
theorem dX11_signedQuotient_73 : decode cX11_signedQuotient 73 = .ok (.isub, 1) := by decide +kernel
theorem dX11_signedQuotient_74 : decode cX11_signedQuotient 74 = .ok (.i2l, 1) := by decide +kernel
theorem dX11_signedQuotient_75 : decode cX11_signedQuotient 75 = .ok (.invokevirtual 167, 3) := by decide +kernel
theorem dX11_signedQuotient_78 : decode cX11_signedQuotient 78 = .ok (.istore 6, 2) := by decide +kernel
theorem dX11_signedQuotient_80 : decode cX11_signedQuotient 80 = .ok (.aload_n 0, 1) := by decide +kernel
theorem dX11_signedQuotient_81 : decode cX11_signedQuotient 81 = .ok (.iload_n 1, 1) := by decide +kernel
theorem dX11_signedQuotient_82 : decode cX11_signedQuotient 82 = .ok (.iconst 5, 1) := by decide +kernel
theorem dX11_signedQuotient_83 : decode cX11_signedQuotient 83 = .ok (.iconst 0, 1) := by decide +kernel
theorem dX11_signedQuotient_84 : decode cX11_signedQuotient 84 = .ok (.iload 6, 2) := by decide +kernel
theorem dX11_signedQuotient_86 : decode cX11_signedQuotient 86 = .ok (.i2l, 1) := by decide +kernel
theorem dX11_signedQuotient_87 : decode cX11_signedQuotient 87 = .ok (.invokevirtual 167, 3) := by decide +kernel
theorem dX11_signedQuotient_90 : decode cX11_signedQuotient 90 = .ok (.istore 7, 2) := by decide +kernel
theorem dX11_signedQuotient_92 : decode cX11_signedQuotient 92 = .ok (.aload_n 0, 1) := by decide +kernel
theorem dX11_signedQuotient_93 : decode cX11_signedQuotient 93 = .ok (.iload_n 1, 1) := by decide +kernel
theorem dX11_signedQuotient_94 : decode cX11_signedQuotient 94 = .ok (.iconst 1, 1) := by decide +kernel
theorem dX11_signedQuotient_95 : decode cX11_signedQuotient 95 = .ok (.iload 7, 2) := by decide +kernel
theorem dX11_signedQuotient_97 : decode cX11_signedQuotient 97 = .ok (.aload_n 0, 1) := by decide +kernel
theorem dX11_signedQuotient_98 : decode cX11_signedQuotient 98 = .ok (.getfield 174, 3) := by decide +kernel
theorem dX11_signedQuotient_101 : decode cX11_signedQuotient 101 = .ok (.i2l, 1) := by decide +kernel
theorem dX11_signedQuotient_102 : decode cX11_signedQuotient 102 = .ok (.invokevirtual 167, 3) := by decide +kernel
theorem dX11_signedQuotient_105 : decode cX11_signedQuotient 105 = .ok (.istore 4, 2) := by decide +kernel
theorem dX11_signedQuotient_107 : decode cX11_signedQuotient 107 = .ok (.goto 100, 3) := by decide +kernel
theorem dX11_signedQuotient_110 : decode cX11_signedQuotient 110 = .ok (.aload_n 0, 1) := by decide +kernel
theorem dX11_signedQuotient_111 : decode cX11_signedQuotient 111 = .ok (.iload_n 3, 1) := by decide +kernel
theorem dX11_signedQuotient_112 : decode cX11_signedQuotient 112 = .ok (.iconst 1, 1) := by decide +kernel
theorem dX11_signedQuotient_113 : decode cX11_signedQuotient 113 = .ok (.invokevirtual 195, 3) := by decide +kernel
theorem dX11_signedQuotient_116 : decode cX11_signedQuotient 116 = .ok (.aload_n 0, 1) := by decide +kernel
theorem dX11_signedQuotient_117 : decode cX11_signedQuotient 117 = .ok (.iload_n 1, 1) := by decide +kernel
theorem dX11_signedQuotient_118 : decode cX11_signedQuotient 118 = .ok (.iconst 3, 1) := by decide +kernel
theorem dX11_signedQuotient_119 : decode cX11_signedQuotient 119 = .ok (.iconst 0, 1) := by decide +kernel
theorem dX11_signedQuotient_120 : decode cX11_signedQuotient 120 = .ok (.aload_n 0, 1) := by decide +kernel
theorem dX11_signedQuotient_121 : decode cX11_signedQuotient 121 = .ok (.getfield 189, 3) := by decide +kernel
theorem dX11_signedQuotient_124 : decode cX11_signedQuotient 124 = .ok (.invokevirtual 167, 3) := by decide +kernel
theorem dX11_signedQuotient_127 : decode cX11_signedQuotient 127 = .ok (.istore 4, 2) := by decide +kernel
theorem dX11_signedQuotient_129 : decode cX11_signedQuotient 129 = .ok (.aload_n 0, 1) := by decide +kernel
theorem dX11_signedQuotient_130 : decode cX11_signedQuotient 130 = .ok (.getfield 192, 3) := by decide +kernel
theorem dX11_signedQuotient_133 : decode cX11_signedQuotient 133 = .ok (.ifCond .gt 14, 3) := by decide +kernel
theorem dX11_signedQuotient_136 : decode cX11_signedQuotient 136 = .ok (.aload_n 0, 1) := by decide +kernel
theorem dX11_signedQuotient_137 : decode cX11_signedQuotient 137 = .ok (.getfield 189, 3) := by decide +kernel
theorem dX11_signedQuotient_140 : decode cX11_signedQuotient 140 = .ok (.iload_n 3, 1) := by decide +kernel
theorem dX11_signedQuotient_141 : decode cX11_signedQuotient 141 = .ok (.invokestatic 128, 3) := by decide +kernel
theorem dX11_signedQuotient_144 : decode cX11_signedQuotient 144 = .ok (.ifCond .eq 14, 3) := by decide +kernel
theorem dX11_signedQuotient_147 : decode cX11_signedQuotient 147 = .ok (.aload_n 0, 1) := by decide +kernel
theorem dX11_signedQuotient_148 : decode cX11_signedQuotient 148 = .ok (.iload_n 1, 1) := by decide +kernel
theorem dX11_signedQuotient_149 : decode cX11_signedQuotient 149 = .ok (.iconst 5, 1) := by decide +kernel
theorem dX11_signedQuotient_150 : decode cX11_signedQuotient 150 = .ok (.iload 4, 2) := by decide +kernel
theorem dX11_signedQuotient_152 : decode cX11_signedQuotient 152 = .ok (.lconst 0, 1) := by decide +kernel
theorem dX11_signedQuotient_153 : decode cX11_signedQuotient 153 = .ok (.invokevirtual 167, 3) := by decide +kernel
theorem dX11_signedQuotient_156 : decode cX11_signedQuotient 156 = .ok (.istore 4, 2) := by decide +kernel
theorem dX11_signedQuotient_158 : decode cX11_signedQuotient 158 = .ok (.aload_n 0, 1) := by decide +kernel
theorem dX11_signedQuotient_159 : decode cX11_signedQuotient 159 = .ok (.getfield 183, 3) := by decide +kernel
theorem dX11_signedQuotient_162 : decode cX11_signedQuotient 162 = .ok (.ifCond .le 18, 3) := by decide +kernel
theorem dX11_signedQuotient_165 : decode cX11_signedQuotient 165 = .ok (.aload_n 0, 1) := by decide +kernel
theorem dX11_signedQuotient_166 : decode cX11_signedQuotient 166 = .ok (.iload_n 1, 1) := by decide +kernel
theorem dX11_signedQuotient_167 : decode cX11_signedQuotient 167 = .ok (.iconst 1, 1) := by decide +kernel
theorem dX11_signedQuotient_168 : decode cX11_signedQuotient 168 = .ok (.iload 4, 2) := by decide +kernel
theorem dX11_signedQuotient_170 : decode cX11_signedQuotient 170 = .ok (.aload_n 0, 1) := by decide +kernel
theorem dX11_signedQuotient_171 : decode cX11_signedQuotient 171 = .ok (.getfield 183, 3) := by decide +kernel
theorem dX11_signedQuotient_174 : decode cX11_signedQuotient 174 = .ok (.i2l, 1) := by decide +kernel
theorem dX11_signedQuotient_175 : decode cX11_signedQuotient 175 = .ok (.invokevirtual 167, 3) := by decide +kernel
theorem dX11_signedQuotient_178 : decode cX11_signedQuotient 178 = .ok (.istore 4, 2) := by decide +kernel
theorem dX11_signedQuotient_180 : decode cX11_signedQuotient 180 = .ok (.aload_n 0, 1) := by decide +kernel
theorem dX11_signedQuotient_181 : decode cX11_signedQuotient 181 = .ok (.iload_n 1, 1) := by decide +kernel
theorem dX11_signedQuotient_182 : decode cX11_signedQuotient 182 = .ok (.iconst 1, 1) := by decide +kernel
theorem dX11_signedQuotient_183 : decode cX11_signedQuotient 183 = .ok (.iconst 0, 1) := by decide +kernel
theorem dX11_signedQuotient_184 : decode cX11_signedQuotient 184 = .ok (.iload_n 3, 1) := by decide +kernel
theorem dX11_signedQuotient_185 : decode cX11_signedQuotient 185 = .ok (.iconst 1, 1) := by decide +kernel
theorem dX11_signedQuotient_186 : decode cX11_signedQuotient 186 = .ok (.isub, 1) := by decide +kernel
theorem dX11_signedQuotient_187 : decode cX11_signedQuotient 187 = .ok (.i2l, 1) := by decide +kernel
theorem dX11_signedQuotient_188 : decode cX11_signedQuotient 188 = .ok (.invokevirtual 167, 3) := by decide +kernel
theorem dX11_signedQuotient_191 : decode cX11_signedQuotient 191 = .ok (.istore 5, 2) := by decide +kernel
theorem dX11_signedQuotient_193 : decode cX11_signedQuotient 193 = .ok (.aload_n 0, 1) := by decide +kernel
theorem dX11_signedQuotient_194 : decode cX11_signedQuotient 194 = .ok (.iload_n 1, 1) := by decide +kernel
theorem dX11_signedQuotient_195 : decode cX11_signedQuotient 195 = .ok (.bipush 6, 2) := by decide +kernel
theorem dX11_signedQuotient_197 : decode cX11_signedQuotient 197 = .ok (.iload 4, 2) := by decide +kernel
theorem dX11_signedQuotient_199 : decode cX11_signedQuotient 199 = .ok (.iload 5, 2) := by decide +kernel
theorem dX11_signedQuotient_201 : decode cX11_signedQuotient 201 = .ok (.i2l, 1) := by decide +kernel
theorem dX11_signedQuotient_202 : decode cX11_signedQuotient 202 = .ok (.invokevirtual 167, 3) := by decide +kernel
theorem dX11_signedQuotient_205 : decode cX11_signedQuotient 205 = .ok (.istore 4, 2) := by decide +kernel
theorem dX11_signedQuotient_207 : decode cX11_signedQuotient 207 = .ok (.iload_n 2, 1) := by decide +kernel
theorem dX11_signedQuotient_208 : decode cX11_signedQuotient 208 = .ok (.ifCond .eq 16, 3) := by decide +kernel
theorem dX11_signedQuotient_211 : decode cX11_signedQuotient 211 = .ok (.aload_n 0, 1) := by decide +kernel
theorem dX11_signedQuotient_212 : decode cX11_signedQuotient 212 = .ok (.iload_n 1, 1) := by decide +kernel
theorem dX11_signedQuotient_213 : decode cX11_signedQuotient 213 = .ok (.bipush 7, 2) := by decide +kernel
theorem dX11_signedQuotient_215 : decode cX11_signedQuotient 215 = .ok (.iload 4, 2) := by decide +kernel
theorem dX11_signedQuotient_217 : decode cX11_signedQuotient 217 = .ok (.lconst 0, 1) := by decide +kernel
theorem dX11_signedQuotient_218 : decode cX11_signedQuotient 218 = .ok (.invokevirtual 167, 3) := by decide +kernel
theorem dX11_signedQuotient_221 : decode cX11_signedQuotient 221 = .ok (.goto 5, 3) := by decide +kernel
theorem dX11_signedQuotient_224 : decode cX11_signedQuotient 224 = .ok (.iload 4, 2) := by decide +kernel
theorem dX11_signedQuotient_226 : decode cX11_signedQuotient 226 = .ok (.ireturn, 1) := by decide +kernel
theorem dX11_signedDown_0 : decode cX11_signedDown 0 = .ok (.aload_n 0, 1) := by decide +kernel
theorem dX11_signedDown_1 : decode cX11_signedDown 1 = .ok (.iload_n 1, 1) := by decide +kernel
theorem dX11_signedDown_2 : decode cX11_signedDown 2 = .ok (.iconst 1, 1) := by decide +kernel
theorem dX11_signedDown_3 : decode cX11_signedDown 3 = .ok (.iconst 0, 1) := by decide +kernel
theorem dX11_signedDown_4 : decode cX11_signedDown 4 = .ok (.aload_n 0, 1) := by decide +kernel
theorem dX11_signedDown_5 : decode cX11_signedDown 5 = .ok (.getfield 7, 3) := by decide +kernel
theorem dX11_signedDown_8 : decode cX11_signedDown 8 = .ok (.iload_n 1, 1) := by decide +kernel
theorem dX11_signedDown_9 : decode cX11_signedDown 9 = .ok (.iaload, 1) := by decide +kernel
theorem dX11_signedDown_10 : decode cX11_signedDown 10 = .ok (.iconst 1, 1) := by decide +kernel
theorem dX11_signedDown_11 : decode cX11_signedDown 11 = .ok (.isub, 1) := by decide +kernel
theorem dX11_signedDown_12 : decode cX11_signedDown 12 = .ok (.i2l, 1) := by decide +kernel
theorem dX11_signedDown_13 : decode cX11_signedDown 13 = .ok (.invokevirtual 167, 3) := by decide +kernel
theorem dX11_signedDown_16 : decode cX11_signedDown 16 = .ok (.istore_n 2, 1) := by decide +kernel
theorem dX11_signedDown_17 : decode cX11_signedDown 17 = .ok (.aload_n 0, 1) := by decide +kernel
theorem dX11_signedDown_18 : decode cX11_signedDown 18 = .ok (.iload_n 1, 1) := by decide +kernel
theorem dX11_signedDown_19 : decode cX11_signedDown 19 = .ok (.bipush 8, 2) := by decide +kernel
theorem dX11_signedDown_21 : decode cX11_signedDown 21 = .ok (.iconst 0, 1) := by decide +kernel
theorem dX11_signedDown_22 : decode cX11_signedDown 22 = .ok (.iload_n 2, 1) := by decide +kernel
theorem dX11_signedDown_23 : decode cX11_signedDown 23 = .ok (.i2l, 1) := by decide +kernel
theorem dX11_signedDown_24 : decode cX11_signedDown 24 = .ok (.invokevirtual 167, 3) := by decide +kernel
theorem dX11_signedDown_27 : decode cX11_signedDown 27 = .ok (.istore_n 3, 1) := by decide +kernel
theorem dX11_signedDown_28 : decode cX11_signedDown 28 = .ok (.aload_n 0, 1) := by decide +kernel
theorem dX11_signedDown_29 : decode cX11_signedDown 29 = .ok (.iload_n 1, 1) := by decide +kernel
theorem dX11_signedDown_30 : decode cX11_signedDown 30 = .ok (.iload_n 3, 1) := by decide +kernel
theorem dX11_signedDown_31 : decode cX11_signedDown 31 = .ok (.invokevirtual 204, 3) := by decide +kernel
theorem dX11_signedDown_34 : decode cX11_signedDown 34 = .ok (.istore 4, 2) := by decide +kernel
theorem dX11_signedDown_36 : decode cX11_signedDown 36 = .ok (.aload_n 0, 1) := by decide +kernel
theorem dX11_signedDown_37 : decode cX11_signedDown 37 = .ok (.iload_n 1, 1) := by decide +kernel
theorem dX11_signedDown_38 : decode cX11_signedDown 38 = .ok (.bipush 8, 2) := by decide +kernel
theorem dX11_signedDown_40 : decode cX11_signedDown 40 = .ok (.iload 4, 2) := by decide +kernel
theorem dX11_signedDown_42 : decode cX11_signedDown 42 = .ok (.iload_n 2, 1) := by decide +kernel
theorem dX11_signedDown_43 : decode cX11_signedDown 43 = .ok (.i2l, 1) := by decide +kernel
theorem dX11_signedDown_44 : decode cX11_signedDown 44 = .ok (.invokevirtual 167, 3) := by decide +kernel
theorem dX11_signedDown_47 : decode cX11_signedDown 47 = .ok (.ireturn, 1) := by decide +kernel
theorem dX11_writeSigned_0 : decode cX11_writeSigned 0 = .ok (.aload_n 0, 1) := by decide +kernel
theorem dX11_writeSigned_1 : decode cX11_writeSigned 1 = .ok (.getfield 7, 3) := by decide +kernel
theorem dX11_writeSigned_4 : decode cX11_writeSigned 4 = .ok (.iload_n 1, 1) := by decide +kernel
theorem dX11_writeSigned_5 : decode cX11_writeSigned 5 = .ok (.iaload, 1) := by decide +kernel
theorem dX11_writeSigned_6 : decode cX11_writeSigned 6 = .ok (.istore 5, 2) := by decide +kernel
theorem dX11_writeSigned_8 : decode cX11_writeSigned 8 = .ok (.lload_n 3, 1) := by decide +kernel
theorem dX11_writeSigned_9 : decode cX11_writeSigned 9 = .ok (.iload 5, 2) := by decide +kernel
theorem dX11_writeSigned_11 : decode cX11_writeSigned 11 = .ok (.invokestatic 105, 3) := by decide +kernel
theorem dX11_writeSigned_14 : decode cX11_writeSigned 14 = .ok (.iload 5, 2) := by decide +kernel
theorem dX11_writeSigned_16 : decode cX11_writeSigned 16 = .ok (.invokestatic 128, 3) := by decide +kernel
theorem dX11_writeSigned_19 : decode cX11_writeSigned 19 = .ok (.istore 6, 2) := by decide +kernel
theorem dX11_writeSigned_21 : decode cX11_writeSigned 21 = .ok (.iload_n 2, 1) := by decide +kernel
theorem dX11_writeSigned_22 : decode cX11_writeSigned 22 = .ok (.tableswitch 123 0 4 #[34, 42, 48, 62, 74], 34) := by decide +kernel
theorem dX11_writeSigned_56 : decode cX11_writeSigned 56 = .ok (.aload_n 0, 1) := by decide +kernel
theorem dX11_writeSigned_57 : decode cX11_writeSigned 57 = .ok (.iload_n 1, 1) := by decide +kernel
theorem dX11_writeSigned_58 : decode cX11_writeSigned 58 = .ok (.iload 6, 2) := by decide +kernel
theorem dX11_writeSigned_60 : decode cX11_writeSigned 60 = .ok (.invokevirtual 215, 3) := by decide +kernel
theorem dX11_writeSigned_63 : decode cX11_writeSigned 63 = .ok (.ireturn, 1) := by decide +kernel
theorem dX11_writeSigned_64 : decode cX11_writeSigned 64 = .ok (.aload_n 0, 1) := by decide +kernel
theorem dX11_writeSigned_65 : decode cX11_writeSigned 65 = .ok (.iload_n 1, 1) := by decide +kernel
theorem dX11_writeSigned_66 : decode cX11_writeSigned 66 = .ok (.invokevirtual 219, 3) := by decide +kernel
theorem dX11_writeSigned_69 : decode cX11_writeSigned 69 = .ok (.ireturn, 1) := by decide +kernel
theorem dX11_writeSigned_70 : decode cX11_writeSigned 70 = .ok (.aload_n 0, 1) := by decide +kernel
theorem dX11_writeSigned_71 : decode cX11_writeSigned 71 = .ok (.iload_n 1, 1) := by decide +kernel
theorem dX11_writeSigned_72 : decode cX11_writeSigned 72 = .ok (.aload_n 0, 1) := by decide +kernel
theorem dX11_writeSigned_73 : decode cX11_writeSigned 73 = .ok (.iload_n 1, 1) := by decide +kernel
theorem dX11_writeSigned_74 : decode cX11_writeSigned 74 = .ok (.iload 6, 2) := by decide +kernel
theorem dX11_writeSigned_76 : decode cX11_writeSigned 76 = .ok (.invokevirtual 215, 3) := by decide +kernel
theorem dX11_writeSigned_79 : decode cX11_writeSigned 79 = .ok (.lload_n 3, 1) := by decide +kernel
theorem dX11_writeSigned_80 : decode cX11_writeSigned 80 = .ok (.invokevirtual 208, 3) := by decide +kernel
theorem dX11_writeSigned_83 : decode cX11_writeSigned 83 = .ok (.ireturn, 1) := by decide +kernel
theorem dX11_writeSigned_84 : decode cX11_writeSigned 84 = .ok (.aload_n 0, 1) := by decide +kernel
theorem dX11_writeSigned_85 : decode cX11_writeSigned 85 = .ok (.iload_n 1, 1) := by decide +kernel
theorem dX11_writeSigned_86 : decode cX11_writeSigned 86 = .ok (.aload_n 0, 1) := by decide +kernel
theorem dX11_writeSigned_87 : decode cX11_writeSigned 87 = .ok (.iload_n 1, 1) := by decide +kernel
theorem dX11_writeSigned_88 : decode cX11_writeSigned 88 = .ok (.invokevirtual 219, 3) := by decide +kernel
theorem dX11_writeSigned_91 : decode cX11_writeSigned 91 = .ok (.lload_n 3, 1) := by decide +kernel
theorem dX11_writeSigned_92 : decode cX11_writeSigned 92 = .ok (.invokevirtual 208, 3) := by decide +kernel
theorem dX11_writeSigned_95 : decode cX11_writeSigned 95 = .ok (.ireturn, 1) := by decide +kernel
theorem dX11_writeSigned_96 : decode cX11_writeSigned 96 = .ok (.aload_n 0, 1) := by decide +kernel
theorem dX11_writeSigned_97 : decode cX11_writeSigned 97 = .ok (.iload_n 1, 1) := by decide +kernel
theorem dX11_writeSigned_98 : decode cX11_writeSigned 98 = .ok (.iconst 1, 1) := by decide +kernel
theorem dX11_writeSigned_99 : decode cX11_writeSigned 99 = .ok (.iconst 0, 1) := by decide +kernel
theorem dX11_writeSigned_100 : decode cX11_writeSigned 100 = .ok (.iload 5, 2) := by decide +kernel
theorem dX11_writeSigned_102 : decode cX11_writeSigned 102 = .ok (.iconst 1, 1) := by decide +kernel
theorem dX11_writeSigned_103 : decode cX11_writeSigned 103 = .ok (.isub, 1) := by decide +kernel
theorem dX11_writeSigned_104 : decode cX11_writeSigned 104 = .ok (.i2l, 1) := by decide +kernel
theorem dX11_writeSigned_105 : decode cX11_writeSigned 105 = .ok (.invokevirtual 167, 3) := by decide +kernel
theorem dX11_writeSigned_108 : decode cX11_writeSigned 108 = .ok (.istore 7, 2) := by decide +kernel
theorem dX11_writeSigned_110 : decode cX11_writeSigned 110 = .ok (.aload_n 0, 1) := by decide +kernel
theorem dX11_writeSigned_111 : decode cX11_writeSigned 111 = .ok (.iload_n 1, 1) := by decide +kernel
theorem dX11_writeSigned_112 : decode cX11_writeSigned 112 = .ok (.bipush 8, 2) := by decide +kernel
theorem dX11_writeSigned_114 : decode cX11_writeSigned 114 = .ok (.iconst 0, 1) := by decide +kernel
theorem dX11_writeSigned_115 : decode cX11_writeSigned 115 = .ok (.iload 7, 2) := by decide +kernel
theorem dX11_writeSigned_117 : decode cX11_writeSigned 117 = .ok (.i2l, 1) := by decide +kernel
theorem dX11_writeSigned_118 : decode cX11_writeSigned 118 = .ok (.invokevirtual 167, 3) := by decide +kernel
theorem dX11_writeSigned_121 : decode cX11_writeSigned 121 = .ok (.istore 8, 2) := by decide +kernel
theorem dX11_writeSigned_123 : decode cX11_writeSigned 123 = .ok (.aload_n 0, 1) := by decide +kernel
theorem dX11_writeSigned_124 : decode cX11_writeSigned 124 = .ok (.iload_n 1, 1) := by decide +kernel
theorem dX11_writeSigned_125 : decode cX11_writeSigned 125 = .ok (.bipush 6, 2) := by decide +kernel
theorem dX11_writeSigned_127 : decode cX11_writeSigned 127 = .ok (.iload 8, 2) := by decide +kernel
theorem dX11_writeSigned_129 : decode cX11_writeSigned 129 = .ok (.iload 7, 2) := by decide +kernel
theorem dX11_writeSigned_131 : decode cX11_writeSigned 131 = .ok (.i2l, 1) := by decide +kernel
theorem dX11_writeSigned_132 : decode cX11_writeSigned 132 = .ok (.invokevirtual 167, 3) := by decide +kernel
theorem dX11_writeSigned_135 : decode cX11_writeSigned 135 = .ok (.istore 9, 2) := by decide +kernel
theorem dX11_writeSigned_137 : decode cX11_writeSigned 137 = .ok (.aload_n 0, 1) := by decide +kernel
theorem dX11_writeSigned_138 : decode cX11_writeSigned 138 = .ok (.iload_n 1, 1) := by decide +kernel
theorem dX11_writeSigned_139 : decode cX11_writeSigned 139 = .ok (.iload 9, 2) := by decide +kernel
theorem dX11_writeSigned_141 : decode cX11_writeSigned 141 = .ok (.invokevirtual 212, 3) := by decide +kernel
theorem dX11_writeSigned_144 : decode cX11_writeSigned 144 = .ok (.ireturn, 1) := by decide +kernel
theorem dX11_writeSigned_145 : decode cX11_writeSigned 145 = .ok (.lload_n 3, 1) := by decide +kernel
theorem dX11_writeSigned_146 : decode cX11_writeSigned 146 = .ok (.iload 5, 2) := by decide +kernel
theorem dX11_writeSigned_148 : decode cX11_writeSigned 148 = .ok (.invokestatic 105, 3) := by decide +kernel
theorem dX11_writeSigned_151 : decode cX11_writeSigned 151 = .ok (.iload 5, 2) := by decide +kernel
theorem dX11_writeSigned_153 : decode cX11_writeSigned 153 = .ok (.invokestatic 101, 3) := by decide +kernel
theorem dX11_writeSigned_156 : decode cX11_writeSigned 156 = .ok (.aload_n 0, 1) := by decide +kernel
theorem dX11_writeSigned_157 : decode cX11_writeSigned 157 = .ok (.getfield 174, 3) := by decide +kernel
theorem dX11_writeSigned_160 : decode cX11_writeSigned 160 = .ok (.lshr, 1) := by decide +kernel
theorem dX11_writeSigned_161 : decode cX11_writeSigned 161 = .ok (.lstore 7, 2) := by decide +kernel
theorem dX11_writeSigned_163 : decode cX11_writeSigned 163 = .ok (.aload_n 0, 1) := by decide +kernel
theorem dX11_writeSigned_164 : decode cX11_writeSigned 164 = .ok (.getfield 174, 3) := by decide +kernel
theorem dX11_writeSigned_167 : decode cX11_writeSigned 167 = .ok (.ifCond .gt 10, 3) := by decide +kernel
theorem dX11_writeSigned_170 : decode cX11_writeSigned 170 = .ok (.lload 7, 2) := by decide +kernel
theorem dX11_writeSigned_172 : decode cX11_writeSigned 172 = .ok (.lconst 1, 1) := by decide +kernel
theorem dX11_writeSigned_173 : decode cX11_writeSigned 173 = .ok (.lcmp, 1) := by decide +kernel
theorem dX11_writeSigned_174 : decode cX11_writeSigned 174 = .ok (.ifCond .ne 18, 3) := by decide +kernel
theorem dX11_writeSigned_177 : decode cX11_writeSigned 177 = .ok (.aload_n 0, 1) := by decide +kernel
theorem dX11_writeSigned_178 : decode cX11_writeSigned 178 = .ok (.iload_n 1, 1) := by decide +kernel
theorem dX11_writeSigned_179 : decode cX11_writeSigned 179 = .ok (.iconst 1, 1) := by decide +kernel
theorem dX11_writeSigned_180 : decode cX11_writeSigned 180 = .ok (.iconst 0, 1) := by decide +kernel
theorem dX11_writeSigned_181 : decode cX11_writeSigned 181 = .ok (.aload_n 0, 1) := by decide +kernel
theorem dX11_writeSigned_182 : decode cX11_writeSigned 182 = .ok (.getfield 174, 3) := by decide +kernel
theorem dX11_writeSigned_185 : decode cX11_writeSigned 185 = .ok (.i2l, 1) := by decide +kernel
theorem dX11_writeSigned_186 : decode cX11_writeSigned 186 = .ok (.invokevirtual 167, 3) := by decide +kernel
theorem dX11_writeSigned_189 : decode cX11_writeSigned 189 = .ok (.goto 4, 3) := by decide +kernel
theorem dX11_writeSigned_192 : decode cX11_writeSigned 192 = .ok (.iconst 0, 1) := by decide +kernel
theorem dX11_writeSigned_193 : decode cX11_writeSigned 193 = .ok (.istore 9, 2) := by decide +kernel
theorem dX11_writeSigned_195 : decode cX11_writeSigned 195 = .ok (.lload 7, 2) := by decide +kernel
theorem dX11_writeSigned_197 : decode cX11_writeSigned 197 = .ok (.lconst 1, 1) := by decide +kernel
theorem dX11_writeSigned_198 : decode cX11_writeSigned 198 = .ok (.lcmp, 1) := by decide +kernel
theorem dX11_writeSigned_199 : decode cX11_writeSigned 199 = .ok (.ifCond .ne 8, 3) := by decide +kernel
theorem dX11_writeSigned_202 : decode cX11_writeSigned 202 = .ok (.iload 9, 2) := by decide +kernel
theorem dX11_writeSigned_204 : decode cX11_writeSigned 204 = .ok (.goto 16, 3) := by decide +kernel
theorem dX11_writeSigned_207 : decode cX11_writeSigned 207 = .ok (.aload_n 0, 1) := by decide +kernel
theorem dX11_writeSigned_208 : decode cX11_writeSigned 208 = .ok (.iload_n 1, 1) := by decide +kernel
theorem dX11_writeSigned_209 : decode cX11_writeSigned 209 = .ok (.iconst 4, 1) := by decide +kernel
theorem dX11_writeSigned_210 : decode cX11_writeSigned 210 = .ok (.iload 9, 2) := by decide +kernel
theorem dX11_writeSigned_212 : decode cX11_writeSigned 212 = .ok (.lload 7, 2) := by decide +kernel
theorem dX11_writeSigned_214 : decode cX11_writeSigned 214 = .ok (.invokestatic 198, 3) := by decide +kernel
theorem dX11_writeSigned_217 : decode cX11_writeSigned 217 = .ok (.invokevirtual 167, 3) := by decide +kernel
theorem dX11_writeSigned_220 : decode cX11_writeSigned 220 = .ok (.ireturn, 1) := by decide +kernel
theorem dX11_make_0 : decode cX11_make 0 = .ok (.aload_n 0, 1) := by decide +kernel
theorem dX11_make_1 : decode cX11_make 1 = .ok (.iload_n 1, 1) := by decide +kernel
theorem dX11_make_2 : decode cX11_make 2 = .ok (.iload_n 2, 1) := by decide +kernel
theorem dX11_make_3 : decode cX11_make 3 = .ok (.iload_n 3, 1) := by decide +kernel
theorem dX11_make_4 : decode cX11_make 4 = .ok (.lload 4, 2) := by decide +kernel
theorem dX11_make_6 : decode cX11_make 6 = .ok (.invokevirtual 222, 3) := by decide +kernel
theorem dX11_make_9 : decode cX11_make 9 = .ok (.ifCond .ne 5, 3) := by decide +kernel
theorem dX11_make_12 : decode cX11_make 12 = .ok (.iconst (-1), 1) := by decide +kernel
theorem dX11_make_13 : decode cX11_make 13 = .ok (.ireturn, 1) := by decide +kernel
theorem dX11_make_14 : decode cX11_make 14 = .ok (.aload_n 0, 1) := by decide +kernel
theorem dX11_make_15 : decode cX11_make 15 = .ok (.getfield 118, 3) := by decide +kernel
theorem dX11_make_18 : decode cX11_make 18 = .ok (.bipush 60, 2) := by decide +kernel
theorem dX11_make_20 : decode cX11_make 20 = .ok (.if_icmp .ne 6, 3) := by decide +kernel
theorem dX11_make_23 : decode cX11_make 23 = .ok (.bipush (-2), 2) := by decide +kernel
theorem dX11_make_25 : decode cX11_make 25 = .ok (.ireturn, 1) := by decide +kernel
theorem dX11_make_26 : decode cX11_make 26 = .ok (.aload_n 0, 1) := by decide +kernel
theorem dX11_make_27 : decode cX11_make 27 = .ok (.iload_n 1, 1) := by decide +kernel
theorem dX11_make_28 : decode cX11_make 28 = .ok (.invokevirtual 156, 3) := by decide +kernel
theorem dX11_make_31 : decode cX11_make 31 = .ok (.istore 6, 2) := by decide +kernel
theorem dX11_make_33 : decode cX11_make 33 = .ok (.aload_n 0, 1) := by decide +kernel
theorem dX11_make_34 : decode cX11_make 34 = .ok (.iload_n 1, 1) := by decide +kernel
theorem dX11_make_35 : decode cX11_make 35 = .ok (.iload_n 2, 1) := by decide +kernel
theorem dX11_make_36 : decode cX11_make 36 = .ok (.lload 4, 2) := by decide +kernel
theorem dX11_make_38 : decode cX11_make 38 = .ok (.invokevirtual 226, 3) := by decide +kernel
theorem dX11_make_41 : decode cX11_make 41 = .ok (.iload_n 2, 1) := by decide +kernel
theorem dX11_make_42 : decode cX11_make 42 = .ok (.ifCond .ne 13, 3) := by decide +kernel
theorem dX11_make_45 : decode cX11_make 45 = .ok (.aload_n 0, 1) := by decide +kernel
theorem dX11_make_46 : decode cX11_make 46 = .ok (.iload 6, 2) := by decide +kernel
theorem dX11_make_48 : decode cX11_make 48 = .ok (.iload_n 3, 1) := by decide +kernel
theorem dX11_make_49 : decode cX11_make 49 = .ok (.invokevirtual 230, 3) := by decide +kernel
theorem dX11_make_52 : decode cX11_make 52 = .ok (.goto 12, 3) := by decide +kernel
theorem dX11_make_55 : decode cX11_make 55 = .ok (.aload_n 0, 1) := by decide +kernel
theorem dX11_make_56 : decode cX11_make 56 = .ok (.iload 6, 2) := by decide +kernel
theorem dX11_make_58 : decode cX11_make 58 = .ok (.iload_n 3, 1) := by decide +kernel
theorem dX11_make_59 : decode cX11_make 59 = .ok (.lload 4, 2) := by decide +kernel
theorem dX11_make_61 : decode cX11_make 61 = .ok (.invokevirtual 233, 3) := by decide +kernel
theorem dX11_make_64 : decode cX11_make 64 = .ok (.istore 7, 2) := by decide +kernel
theorem dX11_make_66 : decode cX11_make 66 = .ok (.aload_n 0, 1) := by decide +kernel
theorem dX11_make_67 : decode cX11_make 67 = .ok (.iconst 1, 1) := by decide +kernel
theorem dX11_make_68 : decode cX11_make 68 = .ok (.iload 6, 2) := by decide +kernel
theorem dX11_make_70 : decode cX11_make 70 = .ok (.iconst 0, 1) := by decide +kernel
theorem dX11_make_71 : decode cX11_make 71 = .ok (.lconst 0, 1) := by decide +kernel
theorem dX11_make_72 : decode cX11_make 72 = .ok (.invokevirtual 160, 3) := by decide +kernel
theorem dX11_make_75 : decode cX11_make 75 = .ok (.iload 6, 2) := by decide +kernel
theorem dX11_make_77 : decode cX11_make 77 = .ok (.ireturn, 1) := by decide +kernel
theorem dX11_steps_0 : decode cX11_steps 0 = .ok (.aload_n 0, 1) := by decide +kernel
theorem dX11_steps_1 : decode cX11_steps 1 = .ok (.iload_n 1, 1) := by decide +kernel
theorem dX11_steps_2 : decode cX11_steps 2 = .ok (.invokevirtual 164, 3) := by decide +kernel
theorem dX11_steps_5 : decode cX11_steps 5 = .ok (.ifCond .eq 12, 3) := by decide +kernel
theorem dX11_steps_8 : decode cX11_steps 8 = .ok (.aload_n 0, 1) := by decide +kernel
theorem dX11_steps_9 : decode cX11_steps 9 = .ok (.getfield 13, 3) := by decide +kernel
theorem dX11_steps_12 : decode cX11_steps 12 = .ok (.iload_n 1, 1) := by decide +kernel
theorem dX11_steps_13 : decode cX11_steps 13 = .ok (.iaload, 1) := by decide +kernel
theorem dX11_steps_14 : decode cX11_steps 14 = .ok (.goto 4, 3) := by decide +kernel
theorem dX11_steps_17 : decode cX11_steps 17 = .ok (.iconst (-1), 1) := by decide +kernel
theorem dX11_steps_18 : decode cX11_steps 18 = .ok (.ireturn, 1) := by decide +kernel
theorem dX11_told_0 : decode cX11_told 0 = .ok (.aload_n 0, 1) := by decide +kernel
theorem dX11_told_1 : decode cX11_told 1 = .ok (.iload_n 1, 1) := by decide +kernel
theorem dX11_told_2 : decode cX11_told 2 = .ok (.invokevirtual 164, 3) := by decide +kernel
theorem dX11_told_5 : decode cX11_told 5 = .ok (.ifCond .eq 26, 3) := by decide +kernel
theorem dX11_told_8 : decode cX11_told 8 = .ok (.iload_n 2, 1) := by decide +kernel
theorem dX11_told_9 : decode cX11_told 9 = .ok (.ifCond .lt 22, 3) := by decide +kernel
theorem dX11_told_12 : decode cX11_told 12 = .ok (.iload_n 2, 1) := by decide +kernel
theorem dX11_told_13 : decode cX11_told 13 = .ok (.aload_n 0, 1) := by decide +kernel
theorem dX11_told_14 : decode cX11_told 14 = .ok (.getfield 13, 3) := by decide +kernel
theorem dX11_told_17 : decode cX11_told 17 = .ok (.iload_n 1, 1) := by decide +kernel
theorem dX11_told_18 : decode cX11_told 18 = .ok (.iaload, 1) := by decide +kernel
theorem dX11_told_19 : decode cX11_told 19 = .ok (.if_icmp .ge 12, 3) := by decide +kernel
theorem dX11_told_22 : decode cX11_told 22 = .ok (.iload_n 3, 1) := by decide +kernel
theorem dX11_told_23 : decode cX11_told 23 = .ok (.ifCond .lt 8, 3) := by decide +kernel
theorem dX11_told_26 : decode cX11_told 26 = .ok (.iload_n 3, 1) := by decide +kernel
theorem dX11_told_27 : decode cX11_told 27 = .ok (.iconst 2, 1) := by decide +kernel
theorem dX11_told_28 : decode cX11_told 28 = .ok (.if_icmp .le 7, 3) := by decide +kernel
theorem dX11_told_31 : decode cX11_told 31 = .ok (.ldc2_w 202, 3) := by decide +kernel
theorem dX11_told_34 : decode cX11_told 34 = .ok (.lreturn, 1) := by decide +kernel
theorem dX11_told_35 : decode cX11_told 35 = .ok (.bipush 12, 2) := by decide +kernel
theorem dX11_told_37 : decode cX11_told 37 = .ok (.iload_n 1, 1) := by decide +kernel
theorem dX11_told_38 : decode cX11_told 38 = .ok (.imul, 1) := by decide +kernel
theorem dX11_told_39 : decode cX11_told 39 = .ok (.iload_n 2, 1) := by decide +kernel
theorem dX11_told_40 : decode cX11_told 40 = .ok (.iadd, 1) := by decide +kernel
theorem dX11_told_41 : decode cX11_told 41 = .ok (.istore 4, 2) := by decide +kernel
theorem dX11_told_43 : decode cX11_told 43 = .ok (.iload_n 3, 1) := by decide +kernel
theorem dX11_told_44 : decode cX11_told 44 = .ok (.ifCond .ne 14, 3) := by decide +kernel
theorem dX11_told_47 : decode cX11_told 47 = .ok (.aload_n 0, 1) := by decide +kernel
theorem dX11_told_48 : decode cX11_told 48 = .ok (.getfield 16, 3) := by decide +kernel
theorem dX11_told_51 : decode cX11_told 51 = .ok (.iload 4, 2) := by decide +kernel
theorem dX11_told_53 : decode cX11_told 53 = .ok (.iaload, 1) := by decide +kernel
theorem dX11_told_54 : decode cX11_told 54 = .ok (.i2l, 1) := by decide +kernel
theorem dX11_told_55 : decode cX11_told 55 = .ok (.goto 26, 3) := by decide +kernel
theorem dX11_told_58 : decode cX11_told 58 = .ok (.iload_n 3, 1) := by decide +kernel
theorem dX11_told_59 : decode cX11_told 59 = .ok (.iconst 1, 1) := by decide +kernel
theorem dX11_told_60 : decode cX11_told 60 = .ok (.if_icmp .ne 14, 3) := by decide +kernel
theorem dX11_told_63 : decode cX11_told 63 = .ok (.aload_n 0, 1) := by decide +kernel
theorem dX11_told_64 : decode cX11_told 64 = .ok (.getfield 19, 3) := by decide +kernel
theorem dX11_told_67 : decode cX11_told 67 = .ok (.iload 4, 2) := by decide +kernel
theorem dX11_told_69 : decode cX11_told 69 = .ok (.iaload, 1) := by decide +kernel
theorem dX11_told_70 : decode cX11_told 70 = .ok (.i2l, 1) := by decide +kernel
theorem dX11_told_71 : decode cX11_told 71 = .ok (.goto 10, 3) := by decide +kernel
theorem dX11_told_74 : decode cX11_told 74 = .ok (.aload_n 0, 1) := by decide +kernel
theorem dX11_told_75 : decode cX11_told 75 = .ok (.getfield 22, 3) := by decide +kernel
theorem dX11_told_78 : decode cX11_told 78 = .ok (.iload 4, 2) := by decide +kernel
theorem dX11_told_80 : decode cX11_told 80 = .ok (.laload, 1) := by decide +kernel
theorem dX11_told_81 : decode cX11_told 81 = .ok (.lreturn, 1) := by decide +kernel
theorem dX11_width_0 : decode cX11_width 0 = .ok (.aload_n 0, 1) := by decide +kernel
theorem dX11_width_1 : decode cX11_width 1 = .ok (.iload_n 1, 1) := by decide +kernel
theorem dX11_width_2 : decode cX11_width 2 = .ok (.invokevirtual 164, 3) := by decide +kernel
theorem dX11_width_5 : decode cX11_width 5 = .ok (.ifCond .eq 12, 3) := by decide +kernel
theorem dX11_width_8 : decode cX11_width 8 = .ok (.aload_n 0, 1) := by decide +kernel
theorem dX11_width_9 : decode cX11_width 9 = .ok (.getfield 7, 3) := by decide +kernel
theorem dX11_width_12 : decode cX11_width 12 = .ok (.iload_n 1, 1) := by decide +kernel
theorem dX11_width_13 : decode cX11_width 13 = .ok (.iaload, 1) := by decide +kernel
theorem dX11_width_14 : decode cX11_width 14 = .ok (.goto 4, 3) := by decide +kernel
theorem dX11_width_17 : decode cX11_width 17 = .ok (.iconst (-1), 1) := by decide +kernel
theorem dX11_width_18 : decode cX11_width 18 = .ok (.ireturn, 1) := by decide +kernel
theorem dX11_cost_0 : decode cX11_cost 0 = .ok (.aload_n 0, 1) := by decide +kernel
theorem dX11_cost_1 : decode cX11_cost 1 = .ok (.iload_n 1, 1) := by decide +kernel
theorem dX11_cost_2 : decode cX11_cost 2 = .ok (.invokevirtual 164, 3) := by decide +kernel
theorem dX11_cost_5 : decode cX11_cost 5 = .ok (.ifCond .ne 5, 3) := by decide +kernel
theorem dX11_cost_8 : decode cX11_cost 8 = .ok (.iconst (-1), 1) := by decide +kernel
theorem dX11_cost_9 : decode cX11_cost 9 = .ok (.ireturn, 1) := by decide +kernel
theorem dX11_cost_10 : decode cX11_cost 10 = .ok (.iconst 0, 1) := by decide +kernel
theorem dX11_cost_11 : decode cX11_cost 11 = .ok (.istore_n 2, 1) := by decide +kernel
theorem dX11_cost_12 : decode cX11_cost 12 = .ok (.iconst 0, 1) := by decide +kernel
theorem dX11_cost_13 : decode cX11_cost 13 = .ok (.istore_n 3, 1) := by decide +kernel
theorem dX11_cost_14 : decode cX11_cost 14 = .ok (.iload_n 3, 1) := by decide +kernel
theorem dX11_cost_15 : decode cX11_cost 15 = .ok (.aload_n 0, 1) := by decide +kernel
theorem dX11_cost_16 : decode cX11_cost 16 = .ok (.getfield 13, 3) := by decide +kernel
theorem dX11_cost_19 : decode cX11_cost 19 = .ok (.iload_n 1, 1) := by decide +kernel
theorem dX11_cost_20 : decode cX11_cost 20 = .ok (.iaload, 1) := by decide +kernel
theorem dX11_cost_21 : decode cX11_cost 21 = .ok (.if_icmp .ge 28, 3) := by decide +kernel
theorem dX11_cost_24 : decode cX11_cost 24 = .ok (.iload_n 2, 1) := by decide +kernel
theorem dX11_cost_25 : decode cX11_cost 25 = .ok (.aload_n 0, 1) := by decide +kernel
theorem dX11_cost_26 : decode cX11_cost 26 = .ok (.getfield 26, 3) := by decide +kernel
theorem dX11_cost_29 : decode cX11_cost 29 = .ok (.aload_n 0, 1) := by decide +kernel
theorem dX11_cost_30 : decode cX11_cost 30 = .ok (.getfield 16, 3) := by decide +kernel
theorem dX11_cost_33 : decode cX11_cost 33 = .ok (.bipush 12, 2) := by decide +kernel
theorem dX11_cost_35 : decode cX11_cost 35 = .ok (.iload_n 1, 1) := by decide +kernel
theorem dX11_cost_36 : decode cX11_cost 36 = .ok (.imul, 1) := by decide +kernel
theorem dX11_cost_37 : decode cX11_cost 37 = .ok (.iload_n 3, 1) := by decide +kernel
theorem dX11_cost_38 : decode cX11_cost 38 = .ok (.iadd, 1) := by decide +kernel
theorem dX11_cost_39 : decode cX11_cost 39 = .ok (.iaload, 1) := by decide +kernel
theorem dX11_cost_40 : decode cX11_cost 40 = .ok (.iaload, 1) := by decide +kernel
theorem dX11_cost_41 : decode cX11_cost 41 = .ok (.iadd, 1) := by decide +kernel
theorem dX11_cost_42 : decode cX11_cost 42 = .ok (.istore_n 2, 1) := by decide +kernel
theorem dX11_cost_43 : decode cX11_cost 43 = .ok (.iinc 3 1, 3) := by decide +kernel
theorem dX11_cost_46 : decode cX11_cost 46 = .ok (.goto (-32), 3) := by decide +kernel
theorem dX11_cost_49 : decode cX11_cost 49 = .ok (.iload_n 2, 1) := by decide +kernel
theorem dX11_cost_50 : decode cX11_cost 50 = .ok (.ireturn, 1) := by decide +kernel
theorem dX11_price_0 : decode cX11_price 0 = .ok (.iload_n 1, 1) := by decide +kernel
theorem dX11_price_1 : decode cX11_price 1 = .ok (.ifCond .lt 20, 3) := by decide +kernel
theorem dX11_price_4 : decode cX11_price 4 = .ok (.iload_n 1, 1) := by decide +kernel
theorem dX11_price_5 : decode cX11_price 5 = .ok (.bipush 12, 2) := by decide +kernel
theorem dX11_price_7 : decode cX11_price 7 = .ok (.if_icmp .gt 14, 3) := by decide +kernel
theorem dX11_price_10 : decode cX11_price 10 = .ok (.iload_n 2, 1) := by decide +kernel
theorem dX11_price_11 : decode cX11_price 11 = .ok (.iconst 1, 1) := by decide +kernel
theorem dX11_price_12 : decode cX11_price 12 = .ok (.if_icmp .lt 9, 3) := by decide +kernel
theorem dX11_price_15 : decode cX11_price 15 = .ok (.iload_n 2, 1) := by decide +kernel
theorem dX11_price_16 : decode cX11_price 16 = .ok (.bipush 50, 2) := by decide +kernel
theorem dX11_price_18 : decode cX11_price 18 = .ok (.if_icmp .le 5, 3) := by decide +kernel
theorem dX11_price_21 : decode cX11_price 21 = .ok (.iconst (-1), 1) := by decide +kernel
theorem dX11_price_22 : decode cX11_price 22 = .ok (.ireturn, 1) := by decide +kernel
theorem dX11_price_23 : decode cX11_price 23 = .ok (.aload_n 0, 1) := by decide +kernel
theorem dX11_price_24 : decode cX11_price 24 = .ok (.getfield 26, 3) := by decide +kernel
theorem dX11_price_27 : decode cX11_price 27 = .ok (.iload_n 1, 1) := by decide +kernel
theorem dX11_price_28 : decode cX11_price 28 = .ok (.iaload, 1) := by decide +kernel
theorem dX11_price_29 : decode cX11_price 29 = .ok (.istore_n 3, 1) := by decide +kernel
theorem dX11_price_30 : decode cX11_price 30 = .ok (.aload_n 0, 1) := by decide +kernel
theorem dX11_price_31 : decode cX11_price 31 = .ok (.getfield 26, 3) := by decide +kernel
theorem dX11_price_34 : decode cX11_price 34 = .ok (.iload_n 1, 1) := by decide +kernel
theorem dX11_price_35 : decode cX11_price 35 = .ok (.iload_n 2, 1) := by decide +kernel
theorem dX11_price_36 : decode cX11_price 36 = .ok (.iastore, 1) := by decide +kernel
theorem dX11_price_37 : decode cX11_price 37 = .ok (.aload_n 0, 1) := by decide +kernel
theorem dX11_price_38 : decode cX11_price 38 = .ok (.iconst 3, 1) := by decide +kernel
theorem dX11_price_39 : decode cX11_price 39 = .ok (.iload_n 1, 1) := by decide +kernel
theorem dX11_price_40 : decode cX11_price 40 = .ok (.iconst 0, 1) := by decide +kernel
theorem dX11_price_41 : decode cX11_price 41 = .ok (.iload_n 3, 1) := by decide +kernel
theorem dX11_price_42 : decode cX11_price 42 = .ok (.i2l, 1) := by decide +kernel
theorem dX11_price_43 : decode cX11_price 43 = .ok (.invokevirtual 160, 3) := by decide +kernel
theorem dX11_price_46 : decode cX11_price 46 = .ok (.iload_n 3, 1) := by decide +kernel
theorem dX11_price_47 : decode cX11_price 47 = .ok (.ireturn, 1) := by decide +kernel
theorem dX11_run_0 : decode cX11_run 0 = .ok (.aload_n 0, 1) := by decide +kernel
theorem dX11_run_1 : decode cX11_run 1 = .ok (.iload_n 1, 1) := by decide +kernel
theorem dX11_run_2 : decode cX11_run 2 = .ok (.invokevirtual 164, 3) := by decide +kernel
theorem dX11_run_5 : decode cX11_run 5 = .ok (.ifCond .ne 5, 3) := by decide +kernel
theorem dX11_run_8 : decode cX11_run 8 = .ok (.lconst 0, 1) := by decide +kernel
theorem dX11_run_9 : decode cX11_run 9 = .ok (.lreturn, 1) := by decide +kernel
theorem dX11_run_10 : decode cX11_run 10 = .ok (.aload_n 0, 1) := by decide +kernel
theorem dX11_run_11 : decode cX11_run 11 = .ok (.iload_n 1, 1) := by decide +kernel
theorem dX11_run_12 : decode cX11_run 12 = .ok (.lload_n 2, 1) := by decide +kernel
theorem dX11_run_13 : decode cX11_run 13 = .ok (.aload_n 0, 1) := by decide +kernel
theorem dX11_run_14 : decode cX11_run 14 = .ok (.getfield 13, 3) := by decide +kernel
theorem dX11_run_17 : decode cX11_run 17 = .ok (.iload_n 1, 1) := by decide +kernel
theorem dX11_run_18 : decode cX11_run 18 = .ok (.iaload, 1) := by decide +kernel
theorem dX11_run_19 : decode cX11_run 19 = .ok (.invokevirtual 236, 3) := by decide +kernel
theorem dX11_run_22 : decode cX11_run 22 = .ok (.aload_n 0, 1) := by decide +kernel
theorem dX11_run_23 : decode cX11_run 23 = .ok (.getfield 29, 3) := by decide +kernel
theorem dX11_run_26 : decode cX11_run 26 = .ok (.aload_n 0, 1) := by decide +kernel
theorem dX11_run_27 : decode cX11_run 27 = .ok (.getfield 13, 3) := by decide +kernel
theorem dX11_run_30 : decode cX11_run 30 = .ok (.iload_n 1, 1) := by decide +kernel
theorem dX11_run_31 : decode cX11_run 31 = .ok (.iaload, 1) := by decide +kernel
theorem dX11_run_32 : decode cX11_run 32 = .ok (.laload, 1) := by decide +kernel
theorem dX11_run_33 : decode cX11_run 33 = .ok (.lreturn, 1) := by decide +kernel
theorem dX11_end_0 : decode cX11_end 0 = .ok (.aload_n 0, 1) := by decide +kernel
theorem dX11_end_1 : decode cX11_end 1 = .ok (.iload_n 1, 1) := by decide +kernel
theorem dX11_end_2 : decode cX11_end 2 = .ok (.invokevirtual 164, 3) := by decide +kernel
theorem dX11_end_5 : decode cX11_end 5 = .ok (.ifCond .eq 19, 3) := by decide +kernel
theorem dX11_end_8 : decode cX11_end 8 = .ok (.iload 4, 2) := by decide +kernel
theorem dX11_end_10 : decode cX11_end 10 = .ok (.ifCond .lt 14, 3) := by decide +kernel
theorem dX11_end_13 : decode cX11_end 13 = .ok (.iload 4, 2) := by decide +kernel
theorem dX11_end_15 : decode cX11_end 15 = .ok (.aload_n 0, 1) := by decide +kernel
theorem dX11_end_16 : decode cX11_end 16 = .ok (.getfield 13, 3) := by decide +kernel
theorem dX11_end_19 : decode cX11_end 19 = .ok (.iload_n 1, 1) := by decide +kernel
theorem dX11_end_20 : decode cX11_end 20 = .ok (.iaload, 1) := by decide +kernel
theorem dX11_end_21 : decode cX11_end 21 = .ok (.if_icmp .lt 5, 3) := by decide +kernel
theorem dX11_end_24 : decode cX11_end 24 = .ok (.lconst 0, 1) := by decide +kernel
theorem dX11_end_25 : decode cX11_end 25 = .ok (.lreturn, 1) := by decide +kernel
theorem dX11_end_26 : decode cX11_end 26 = .ok (.aload_n 0, 1) := by decide +kernel
theorem dX11_end_27 : decode cX11_end 27 = .ok (.iload_n 1, 1) := by decide +kernel
theorem dX11_end_28 : decode cX11_end 28 = .ok (.lload_n 2, 1) := by decide +kernel
theorem dX11_end_29 : decode cX11_end 29 = .ok (.iload 4, 2) := by decide +kernel
theorem dX11_end_31 : decode cX11_end 31 = .ok (.iconst 1, 1) := by decide +kernel
theorem dX11_end_32 : decode cX11_end 32 = .ok (.iadd, 1) := by decide +kernel
theorem dX11_end_33 : decode cX11_end 33 = .ok (.invokevirtual 236, 3) := by decide +kernel
theorem dX11_end_36 : decode cX11_end 36 = .ok (.aload_n 0, 1) := by decide +kernel
theorem dX11_end_37 : decode cX11_end 37 = .ok (.getfield 29, 3) := by decide +kernel
theorem dX11_end_40 : decode cX11_end 40 = .ok (.iload 4, 2) := by decide +kernel
theorem dX11_end_42 : decode cX11_end 42 = .ok (.iconst 1, 1) := by decide +kernel
theorem dX11_end_43 : decode cX11_end 43 = .ok (.iadd, 1) := by decide +kernel
theorem dX11_end_44 : decode cX11_end 44 = .ok (.laload, 1) := by decide +kernel
theorem dX11_end_45 : decode cX11_end 45 = .ok (.lreturn, 1) := by decide +kernel
theorem dX11_signedDivided_0 : decode cX11_signedDivided 0 = .ok (.lload_n 3, 1) := by decide +kernel
theorem dX11_signedDivided_1 : decode cX11_signedDivided 1 = .ok (.ldc2_w 202, 3) := by decide +kernel
theorem dX11_signedDivided_4 : decode cX11_signedDivided 4 = .ok (.lcmp, 1) := by decide +kernel
theorem dX11_signedDivided_5 : decode cX11_signedDivided 5 = .ok (.ifCond .ne 8, 3) := by decide +kernel
theorem dX11_signedDivided_8 : decode cX11_signedDivided 8 = .ok (.lload_n 1, 1) := by decide +kernel
theorem dX11_signedDivided_9 : decode cX11_signedDivided 9 = .ok (.lneg, 1) := by decide +kernel
theorem dX11_signedDivided_10 : decode cX11_signedDivided 10 = .ok (.goto 6, 3) := by decide +kernel
theorem dX11_signedDivided_13 : decode cX11_signedDivided 13 = .ok (.lload_n 1, 1) := by decide +kernel
theorem dX11_signedDivided_14 : decode cX11_signedDivided 14 = .ok (.lload_n 3, 1) := by decide +kernel
theorem dX11_signedDivided_15 : decode cX11_signedDivided 15 = .ok (.ldiv, 1) := by decide +kernel
theorem dX11_signedDivided_16 : decode cX11_signedDivided 16 = .ok (.lreturn, 1) := by decide +kernel
theorem dX11_asked_0 : decode cX11_asked 0 = .ok (.iload_n 2, 1) := by decide +kernel
theorem dX11_asked_1 : decode cX11_asked 1 = .ok (.ifCond .ne 22, 3) := by decide +kernel
theorem dX11_asked_4 : decode cX11_asked 4 = .ok (.aload_n 0, 1) := by decide +kernel
theorem dX11_asked_5 : decode cX11_asked 5 = .ok (.lload 6, 2) := by decide +kernel
theorem dX11_asked_7 : decode cX11_asked 7 = .ok (.lload 4, 2) := by decide +kernel
theorem dX11_asked_9 : decode cX11_asked 9 = .ok (.invokevirtual 180, 3) := by decide +kernel
theorem dX11_asked_12 : decode cX11_asked 12 = .ok (.lstore 8, 2) := by decide +kernel
theorem dX11_asked_14 : decode cX11_asked 14 = .ok (.aload_n 0, 1) := by decide +kernel
theorem dX11_asked_15 : decode cX11_asked 15 = .ok (.getfield 112, 3) := by decide +kernel
theorem dX11_asked_18 : decode cX11_asked 18 = .ok (.lstore 10, 2) := by decide +kernel
theorem dX11_asked_20 : decode cX11_asked 20 = .ok (.goto 69, 3) := by decide +kernel
theorem dX11_asked_23 : decode cX11_asked 23 = .ok (.lload 6, 2) := by decide +kernel
theorem dX11_asked_25 : decode cX11_asked 25 = .ok (.iload_n 1, 1) := by decide +kernel
theorem dX11_asked_26 : decode cX11_asked 26 = .ok (.invokestatic 101, 3) := by decide +kernel
theorem dX11_asked_29 : decode cX11_asked 29 = .ok (.lstore 12, 2) := by decide +kernel
theorem dX11_asked_31 : decode cX11_asked 31 = .ok (.lload 4, 2) := by decide +kernel
theorem dX11_asked_33 : decode cX11_asked 33 = .ok (.iload_n 1, 1) := by decide +kernel
theorem dX11_asked_34 : decode cX11_asked 34 = .ok (.invokestatic 101, 3) := by decide +kernel
theorem dX11_asked_37 : decode cX11_asked 37 = .ok (.lstore 14, 2) := by decide +kernel
theorem dX11_asked_39 : decode cX11_asked 39 = .ok (.aload_n 0, 1) := by decide +kernel
theorem dX11_asked_40 : decode cX11_asked 40 = .ok (.lload 12, 2) := by decide +kernel
theorem dX11_asked_42 : decode cX11_asked 42 = .ok (.lload 14, 2) := by decide +kernel
theorem dX11_asked_44 : decode cX11_asked 44 = .ok (.invokevirtual 240, 3) := by decide +kernel
theorem dX11_asked_47 : decode cX11_asked 47 = .ok (.lstore 8, 2) := by decide +kernel
theorem dX11_asked_49 : decode cX11_asked 49 = .ok (.lload 12, 2) := by decide +kernel
theorem dX11_asked_51 : decode cX11_asked 51 = .ok (.lload 8, 2) := by decide +kernel
theorem dX11_asked_53 : decode cX11_asked 53 = .ok (.lload 14, 2) := by decide +kernel
theorem dX11_asked_55 : decode cX11_asked 55 = .ok (.lmul, 1) := by decide +kernel
theorem dX11_asked_56 : decode cX11_asked 56 = .ok (.lsub, 1) := by decide +kernel
theorem dX11_asked_57 : decode cX11_asked 57 = .ok (.lstore 10, 2) := by decide +kernel
theorem dX11_asked_59 : decode cX11_asked 59 = .ok (.iload_n 3, 1) := by decide +kernel
theorem dX11_asked_60 : decode cX11_asked 60 = .ok (.iconst 1, 1) := by decide +kernel
theorem dX11_asked_61 : decode cX11_asked 61 = .ok (.if_icmp .eq 8, 3) := by decide +kernel
theorem dX11_asked_64 : decode cX11_asked 64 = .ok (.iload_n 3, 1) := by decide +kernel
theorem dX11_asked_65 : decode cX11_asked 65 = .ok (.iconst 3, 1) := by decide +kernel
theorem dX11_asked_66 : decode cX11_asked 66 = .ok (.if_icmp .ne 23, 3) := by decide +kernel
theorem dX11_asked_69 : decode cX11_asked 69 = .ok (.lload 10, 2) := by decide +kernel
theorem dX11_asked_71 : decode cX11_asked 71 = .ok (.lconst 0, 1) := by decide +kernel
theorem dX11_asked_72 : decode cX11_asked 72 = .ok (.lcmp, 1) := by decide +kernel
theorem dX11_asked_73 : decode cX11_asked 73 = .ok (.ifCond .ge 16, 3) := by decide +kernel
theorem dX11_asked_76 : decode cX11_asked 76 = .ok (.lload 8, 2) := by decide +kernel
theorem dX11_asked_78 : decode cX11_asked 78 = .ok (.lconst 1, 1) := by decide +kernel
theorem dX11_asked_79 : decode cX11_asked 79 = .ok (.lsub, 1) := by decide +kernel
theorem dX11_asked_80 : decode cX11_asked 80 = .ok (.lstore 8, 2) := by decide +kernel
theorem dX11_asked_82 : decode cX11_asked 82 = .ok (.lload 10, 2) := by decide +kernel
theorem dX11_asked_84 : decode cX11_asked 84 = .ok (.lload 14, 2) := by decide +kernel
theorem dX11_asked_86 : decode cX11_asked 86 = .ok (.ladd, 1) := by decide +kernel
theorem dX11_asked_87 : decode cX11_asked 87 = .ok (.lstore 10, 2) := by decide +kernel
theorem dX11_asked_89 : decode cX11_asked 89 = .ok (.aload_n 0, 1) := by decide +kernel
theorem dX11_asked_90 : decode cX11_asked 90 = .ok (.lload 10, 2) := by decide +kernel
theorem dX11_asked_92 : decode cX11_asked 92 = .ok (.iload_n 1, 1) := by decide +kernel
theorem dX11_asked_93 : decode cX11_asked 93 = .ok (.invokestatic 105, 3) := by decide +kernel
theorem dX11_asked_96 : decode cX11_asked 96 = .ok (.lconst 0, 1) := by decide +kernel
theorem dX11_asked_97 : decode cX11_asked 97 = .ok (.lcmp, 1) := by decide +kernel
theorem dX11_asked_98 : decode cX11_asked 98 = .ok (.ifCond .eq 7, 3) := by decide +kernel
theorem dX11_asked_101 : decode cX11_asked 101 = .ok (.iconst 1, 1) := by decide +kernel
theorem dX11_asked_102 : decode cX11_asked 102 = .ok (.goto 4, 3) := by decide +kernel
theorem dX11_asked_105 : decode cX11_asked 105 = .ok (.iconst 0, 1) := by decide +kernel
theorem dX11_asked_106 : decode cX11_asked 106 = .ok (.putfield 243, 3) := by decide +kernel
theorem dX11_asked_109 : decode cX11_asked 109 = .ok (.iload_n 3, 1) := by decide +kernel
theorem dX11_asked_110 : decode cX11_asked 110 = .ok (.iconst 2, 1) := by decide +kernel
theorem dX11_asked_111 : decode cX11_asked 111 = .ok (.if_icmp .eq 8, 3) := by decide +kernel
theorem dX11_asked_114 : decode cX11_asked 114 = .ok (.iload_n 3, 1) := by decide +kernel
theorem dX11_asked_115 : decode cX11_asked 115 = .ok (.iconst 3, 1) := by decide +kernel
theorem dX11_asked_116 : decode cX11_asked 116 = .ok (.if_icmp .ne 8, 3) := by decide +kernel
theorem dX11_asked_119 : decode cX11_asked 119 = .ok (.lload 10, 2) := by decide +kernel
theorem dX11_asked_121 : decode cX11_asked 121 = .ok (.goto 25, 3) := by decide +kernel
theorem dX11_asked_124 : decode cX11_asked 124 = .ok (.iload_n 3, 1) := by decide +kernel
theorem dX11_asked_125 : decode cX11_asked 125 = .ok (.iconst 4, 1) := by decide +kernel
theorem dX11_asked_126 : decode cX11_asked 126 = .ok (.if_icmp .ne 18, 3) := by decide +kernel
theorem dX11_asked_129 : decode cX11_asked 129 = .ok (.aload_n 0, 1) := by decide +kernel
theorem dX11_asked_130 : decode cX11_asked 130 = .ok (.getfield 243, 3) := by decide +kernel
theorem dX11_asked_133 : decode cX11_asked 133 = .ok (.ifCond .eq 7, 3) := by decide +kernel
theorem dX11_asked_136 : decode cX11_asked 136 = .ok (.lconst 0, 1) := by decide +kernel
theorem dX11_asked_137 : decode cX11_asked 137 = .ok (.goto 9, 3) := by decide +kernel
theorem dX11_asked_140 : decode cX11_asked 140 = .ok (.lconst 1, 1) := by decide +kernel
theorem dX11_asked_141 : decode cX11_asked 141 = .ok (.goto 5, 3) := by decide +kernel
theorem dX11_asked_144 : decode cX11_asked 144 = .ok (.lload 8, 2) := by decide +kernel
theorem dX11_asked_146 : decode cX11_asked 146 = .ok (.lstore 12, 2) := by decide +kernel
theorem dX11_asked_148 : decode cX11_asked 148 = .ok (.lload 12, 2) := by decide +kernel
theorem dX11_asked_150 : decode cX11_asked 150 = .ok (.iload_n 1, 1) := by decide +kernel
theorem dX11_asked_151 : decode cX11_asked 151 = .ok (.invokestatic 105, 3) := by decide +kernel
theorem dX11_asked_154 : decode cX11_asked 154 = .ok (.lreturn, 1) := by decide +kernel
theorem dX11_fails_0 : decode cX11_fails 0 = .ok (.aload_n 0, 1) := by decide +kernel
theorem dX11_fails_1 : decode cX11_fails 1 = .ok (.iload_n 1, 1) := by decide +kernel
theorem dX11_fails_2 : decode cX11_fails 2 = .ok (.invokevirtual 164, 3) := by decide +kernel
theorem dX11_fails_5 : decode cX11_fails 5 = .ok (.ifCond .eq 31, 3) := by decide +kernel
theorem dX11_fails_8 : decode cX11_fails 8 = .ok (.aload_n 0, 1) := by decide +kernel
theorem dX11_fails_9 : decode cX11_fails 9 = .ok (.getfield 7, 3) := by decide +kernel
theorem dX11_fails_12 : decode cX11_fails 12 = .ok (.iload_n 1, 1) := by decide +kernel
theorem dX11_fails_13 : decode cX11_fails 13 = .ok (.iaload, 1) := by decide +kernel
theorem dX11_fails_14 : decode cX11_fails 14 = .ok (.bipush 16, 2) := by decide +kernel
theorem dX11_fails_16 : decode cX11_fails 16 = .ok (.if_icmp .gt 20, 3) := by decide +kernel
theorem dX11_fails_19 : decode cX11_fails 19 = .ok (.aload_n 0, 1) := by decide +kernel
theorem dX11_fails_20 : decode cX11_fails 20 = .ok (.aload_n 0, 1) := by decide +kernel
theorem dX11_fails_21 : decode cX11_fails 21 = .ok (.getfield 7, 3) := by decide +kernel
theorem dX11_fails_24 : decode cX11_fails 24 = .ok (.iload_n 1, 1) := by decide +kernel
theorem dX11_fails_25 : decode cX11_fails 25 = .ok (.iaload, 1) := by decide +kernel
theorem dX11_fails_26 : decode cX11_fails 26 = .ok (.iload_n 2, 1) := by decide +kernel
theorem dX11_fails_27 : decode cX11_fails 27 = .ok (.iload_n 3, 1) := by decide +kernel
theorem dX11_fails_28 : decode cX11_fails 28 = .ok (.lload 4, 2) := by decide +kernel
theorem dX11_fails_30 : decode cX11_fails 30 = .ok (.invokevirtual 222, 3) := by decide +kernel
theorem dX11_fails_33 : decode cX11_fails 33 = .ok (.ifCond .ne 5, 3) := by decide +kernel
theorem dX11_fails_36 : decode cX11_fails 36 = .ok (.iconst (-1), 1) := by decide +kernel
theorem dX11_fails_37 : decode cX11_fails 37 = .ok (.ireturn, 1) := by decide +kernel
theorem dX11_fails_38 : decode cX11_fails 38 = .ok (.aload_n 0, 1) := by decide +kernel
theorem dX11_fails_39 : decode cX11_fails 39 = .ok (.getfield 7, 3) := by decide +kernel
theorem dX11_fails_42 : decode cX11_fails 42 = .ok (.iload_n 1, 1) := by decide +kernel
theorem dX11_fails_43 : decode cX11_fails 43 = .ok (.iaload, 1) := by decide +kernel
theorem dX11_fails_44 : decode cX11_fails 44 = .ok (.istore 6, 2) := by decide +kernel
theorem dX11_fails_46 : decode cX11_fails 46 = .ok (.iconst 0, 1) := by decide +kernel
theorem dX11_fails_47 : decode cX11_fails 47 = .ok (.istore 7, 2) := by decide +kernel
theorem dX11_fails_49 : decode cX11_fails 49 = .ok (.iload 7, 2) := by decide +kernel
theorem dX11_fails_51 : decode cX11_fails 51 = .ok (.iconst 1, 1) := by decide +kernel
theorem dX11_fails_52 : decode cX11_fails 52 = .ok (.iload 6, 2) := by decide +kernel
theorem dX11_fails_54 : decode cX11_fails 54 = .ok (.ishl, 1) := by decide +kernel
theorem dX11_fails_55 : decode cX11_fails 55 = .ok (.if_icmp .ge 78, 3) := by decide +kernel
theorem dX11_fails_58 : decode cX11_fails 58 = .ok (.aload_n 0, 1) := by decide +kernel
theorem dX11_fails_59 : decode cX11_fails 59 = .ok (.iload 6, 2) := by decide +kernel
theorem dX11_fails_61 : decode cX11_fails 61 = .ok (.iload_n 2, 1) := by decide +kernel
theorem dX11_fails_62 : decode cX11_fails 62 = .ok (.iload_n 3, 1) := by decide +kernel
theorem dX11_fails_63 : decode cX11_fails 63 = .ok (.lload 4, 2) := by decide +kernel
theorem dX11_fails_65 : decode cX11_fails 65 = .ok (.iload 6, 2) := by decide +kernel
theorem dX11_fails_67 : decode cX11_fails 67 = .ok (.invokestatic 105, 3) := by decide +kernel
theorem dX11_fails_70 : decode cX11_fails 70 = .ok (.iload 7, 2) := by decide +kernel
theorem dX11_fails_72 : decode cX11_fails 72 = .ok (.i2l, 1) := by decide +kernel
theorem dX11_fails_73 : decode cX11_fails 73 = .ok (.invokevirtual 247, 3) := by decide +kernel
theorem dX11_fails_76 : decode cX11_fails 76 = .ok (.lstore 8, 2) := by decide +kernel
theorem dX11_fails_78 : decode cX11_fails 78 = .ok (.iload_n 3, 1) := by decide +kernel
theorem dX11_fails_79 : decode cX11_fails 79 = .ok (.iconst 5, 1) := by decide +kernel
theorem dX11_fails_80 : decode cX11_fails 80 = .ok (.if_icmp .ne 13, 3) := by decide +kernel
theorem dX11_fails_83 : decode cX11_fails 83 = .ok (.aload_n 0, 1) := by decide +kernel
theorem dX11_fails_84 : decode cX11_fails 84 = .ok (.getfield 243, 3) := by decide +kernel
theorem dX11_fails_87 : decode cX11_fails 87 = .ok (.ifCond .eq 6, 3) := by decide +kernel
theorem dX11_fails_90 : decode cX11_fails 90 = .ok (.goto 37, 3) := by decide +kernel
theorem dX11_fails_93 : decode cX11_fails 93 = .ok (.aload_n 0, 1) := by decide +kernel
theorem dX11_fails_94 : decode cX11_fails 94 = .ok (.iload_n 1, 1) := by decide +kernel
theorem dX11_fails_95 : decode cX11_fails 95 = .ok (.iload 7, 2) := by decide +kernel
theorem dX11_fails_97 : decode cX11_fails 97 = .ok (.i2l, 1) := by decide +kernel
theorem dX11_fails_98 : decode cX11_fails 98 = .ok (.aload_n 0, 1) := by decide +kernel
theorem dX11_fails_99 : decode cX11_fails 99 = .ok (.getfield 13, 3) := by decide +kernel
theorem dX11_fails_102 : decode cX11_fails 102 = .ok (.iload_n 1, 1) := by decide +kernel
theorem dX11_fails_103 : decode cX11_fails 103 = .ok (.iaload, 1) := by decide +kernel
theorem dX11_fails_104 : decode cX11_fails 104 = .ok (.invokevirtual 236, 3) := by decide +kernel
theorem dX11_fails_107 : decode cX11_fails 107 = .ok (.aload_n 0, 1) := by decide +kernel
theorem dX11_fails_108 : decode cX11_fails 108 = .ok (.getfield 29, 3) := by decide +kernel
theorem dX11_fails_111 : decode cX11_fails 111 = .ok (.aload_n 0, 1) := by decide +kernel
theorem dX11_fails_112 : decode cX11_fails 112 = .ok (.getfield 13, 3) := by decide +kernel
theorem dX11_fails_115 : decode cX11_fails 115 = .ok (.iload_n 1, 1) := by decide +kernel
theorem dX11_fails_116 : decode cX11_fails 116 = .ok (.iaload, 1) := by decide +kernel
theorem dX11_fails_117 : decode cX11_fails 117 = .ok (.laload, 1) := by decide +kernel
theorem dX11_fails_118 : decode cX11_fails 118 = .ok (.lload 8, 2) := by decide +kernel
theorem dX11_fails_120 : decode cX11_fails 120 = .ok (.lcmp, 1) := by decide +kernel
theorem dX11_fails_121 : decode cX11_fails 121 = .ok (.ifCond .eq 6, 3) := by decide +kernel
theorem dX11_fails_124 : decode cX11_fails 124 = .ok (.iload 7, 2) := by decide +kernel
theorem dX11_fails_126 : decode cX11_fails 126 = .ok (.ireturn, 1) := by decide +kernel
theorem dX11_fails_127 : decode cX11_fails 127 = .ok (.iinc 7 1, 3) := by decide +kernel
theorem dX11_fails_130 : decode cX11_fails 130 = .ok (.goto (-81), 3) := by decide +kernel
theorem dX11_fails_133 : decode cX11_fails 133 = .ok (.bipush (-3), 2) := by decide +kernel
theorem dX11_fails_135 : decode cX11_fails 135 = .ok (.ireturn, 1) := by decide +kernel
theorem dX11_plain_0 : decode cX11_plain 0 = .ok (.aload_n 0, 1) := by decide +kernel
theorem dX11_plain_1 : decode cX11_plain 1 = .ok (.iload_n 1, 1) := by decide +kernel
theorem dX11_plain_2 : decode cX11_plain 2 = .ok (.iload_n 2, 1) := by decide +kernel
theorem dX11_plain_3 : decode cX11_plain 3 = .ok (.iload_n 3, 1) := by decide +kernel
theorem dX11_plain_4 : decode cX11_plain 4 = .ok (.lload 4, 2) := by decide +kernel
theorem dX11_plain_6 : decode cX11_plain 6 = .ok (.invokevirtual 222, 3) := by decide +kernel
theorem dX11_plain_9 : decode cX11_plain 9 = .ok (.ifCond .eq 25, 3) := by decide +kernel
theorem dX11_plain_12 : decode cX11_plain 12 = .ok (.aload_n 0, 1) := by decide +kernel
theorem dX11_plain_13 : decode cX11_plain 13 = .ok (.iload_n 1, 1) := by decide +kernel
theorem dX11_plain_14 : decode cX11_plain 14 = .ok (.iload_n 2, 1) := by decide +kernel
theorem dX11_plain_15 : decode cX11_plain 15 = .ok (.iload_n 3, 1) := by decide +kernel
theorem dX11_plain_16 : decode cX11_plain 16 = .ok (.lload 4, 2) := by decide +kernel
theorem dX11_plain_18 : decode cX11_plain 18 = .ok (.iload_n 1, 1) := by decide +kernel
theorem dX11_plain_19 : decode cX11_plain 19 = .ok (.invokestatic 105, 3) := by decide +kernel
theorem dX11_plain_22 : decode cX11_plain 22 = .ok (.lload 6, 2) := by decide +kernel
theorem dX11_plain_24 : decode cX11_plain 24 = .ok (.iload_n 1, 1) := by decide +kernel
theorem dX11_plain_25 : decode cX11_plain 25 = .ok (.invokestatic 105, 3) := by decide +kernel
theorem dX11_plain_28 : decode cX11_plain 28 = .ok (.invokevirtual 247, 3) := by decide +kernel
theorem dX11_plain_31 : decode cX11_plain 31 = .ok (.goto 4, 3) := by decide +kernel
theorem dX11_plain_34 : decode cX11_plain 34 = .ok (.lconst 0, 1) := by decide +kernel
theorem dX11_plain_35 : decode cX11_plain 35 = .ok (.lreturn, 1) := by decide +kernel
theorem dX11_proof_0 : decode cX11_proof 0 = .ok (.iload_n 1, 1) := by decide +kernel
theorem dX11_proof_1 : decode cX11_proof 1 = .ok (.invokestatic 153, 3) := by decide +kernel
theorem dX11_proof_4 : decode cX11_proof 4 = .ok (.ifCond .eq 24, 3) := by decide +kernel
theorem dX11_proof_7 : decode cX11_proof 7 = .ok (.iload 4, 2) := by decide +kernel
theorem dX11_proof_9 : decode cX11_proof 9 = .ok (.ifCond .lt 19, 3) := by decide +kernel
theorem dX11_proof_12 : decode cX11_proof 12 = .ok (.iload 4, 2) := by decide +kernel
theorem dX11_proof_14 : decode cX11_proof 14 = .ok (.iconst 3, 1) := by decide +kernel
theorem dX11_proof_15 : decode cX11_proof 15 = .ok (.if_icmp .gt 13, 3) := by decide +kernel
theorem dX11_proof_18 : decode cX11_proof 18 = .ok (.lload_n 2, 1) := by decide +kernel
theorem dX11_proof_19 : decode cX11_proof 19 = .ok (.iload_n 1, 1) := by decide +kernel
theorem dX11_proof_20 : decode cX11_proof 20 = .ok (.invokestatic 105, 3) := by decide +kernel
theorem dX11_proof_23 : decode cX11_proof 23 = .ok (.lconst 0, 1) := by decide +kernel
theorem dX11_proof_24 : decode cX11_proof 24 = .ok (.lcmp, 1) := by decide +kernel
theorem dX11_proof_25 : decode cX11_proof 25 = .ok (.ifCond .ne 7, 3) := by decide +kernel
theorem dX11_proof_28 : decode cX11_proof 28 = .ok (.ldc2_w 202, 3) := by decide +kernel
theorem dX11_proof_31 : decode cX11_proof 31 = .ok (.lreturn, 1) := by decide +kernel
theorem dX11_proof_32 : decode cX11_proof 32 = .ok (.aload_n 0, 1) := by decide +kernel
theorem dX11_proof_33 : decode cX11_proof 33 = .ok (.iload_n 1, 1) := by decide +kernel
theorem dX11_proof_34 : decode cX11_proof 34 = .ok (.iconst 0, 1) := by decide +kernel
theorem dX11_proof_35 : decode cX11_proof 35 = .ok (.lload_n 2, 1) := by decide +kernel
theorem dX11_proof_36 : decode cX11_proof 36 = .ok (.invokevirtual 226, 3) := by decide +kernel
theorem dX11_proof_39 : decode cX11_proof 39 = .ok (.aload_n 0, 1) := by decide +kernel
theorem dX11_proof_40 : decode cX11_proof 40 = .ok (.getfield 177, 3) := by decide +kernel
theorem dX11_proof_43 : decode cX11_proof 43 = .ok (.lconst 1, 1) := by decide +kernel
theorem dX11_proof_44 : decode cX11_proof 44 = .ok (.lcmp, 1) := by decide +kernel
theorem dX11_proof_45 : decode cX11_proof 45 = .ok (.ifCond .ne 5, 3) := by decide +kernel
theorem dX11_proof_48 : decode cX11_proof 48 = .ok (.lconst 0, 1) := by decide +kernel
theorem dX11_proof_49 : decode cX11_proof 49 = .ok (.lreturn, 1) := by decide +kernel
theorem dX11_proof_50 : decode cX11_proof 50 = .ok (.aload_n 0, 1) := by decide +kernel
theorem dX11_proof_51 : decode cX11_proof 51 = .ok (.iload_n 1, 1) := by decide +kernel
theorem dX11_proof_52 : decode cX11_proof 52 = .ok (.iconst 0, 1) := by decide +kernel
theorem dX11_proof_53 : decode cX11_proof 53 = .ok (.invokevirtual 195, 3) := by decide +kernel
theorem dX11_proof_56 : decode cX11_proof 56 = .ok (.iload 4, 2) := by decide +kernel
theorem dX11_proof_58 : decode cX11_proof 58 = .ok (.ifCond .ne 11, 3) := by decide +kernel
theorem dX11_proof_61 : decode cX11_proof 61 = .ok (.aload_n 0, 1) := by decide +kernel
theorem dX11_proof_62 : decode cX11_proof 62 = .ok (.getfield 183, 3) := by decide +kernel
theorem dX11_proof_65 : decode cX11_proof 65 = .ok (.i2l, 1) := by decide +kernel
theorem dX11_proof_66 : decode cX11_proof 66 = .ok (.goto 34, 3) := by decide +kernel
theorem dX11_proof_69 : decode cX11_proof 69 = .ok (.iload 4, 2) := by decide +kernel
theorem dX11_proof_71 : decode cX11_proof 71 = .ok (.iconst 1, 1) := by decide +kernel
theorem dX11_proof_72 : decode cX11_proof 72 = .ok (.if_icmp .ne 10, 3) := by decide +kernel
theorem dX11_proof_75 : decode cX11_proof 75 = .ok (.aload_n 0, 1) := by decide +kernel
theorem dX11_proof_76 : decode cX11_proof 76 = .ok (.getfield 189, 3) := by decide +kernel
theorem dX11_proof_79 : decode cX11_proof 79 = .ok (.goto 21, 3) := by decide +kernel
theorem dX11_proof_82 : decode cX11_proof 82 = .ok (.iload 4, 2) := by decide +kernel
theorem dX11_proof_84 : decode cX11_proof 84 = .ok (.iconst 2, 1) := by decide +kernel
theorem dX11_proof_85 : decode cX11_proof 85 = .ok (.if_icmp .ne 11, 3) := by decide +kernel
theorem dX11_proof_88 : decode cX11_proof 88 = .ok (.aload_n 0, 1) := by decide +kernel
theorem dX11_proof_89 : decode cX11_proof 89 = .ok (.getfield 192, 3) := by decide +kernel
theorem dX11_proof_92 : decode cX11_proof 92 = .ok (.i2l, 1) := by decide +kernel
theorem dX11_proof_93 : decode cX11_proof 93 = .ok (.goto 7, 3) := by decide +kernel
theorem dX11_proof_96 : decode cX11_proof 96 = .ok (.aload_n 0, 1) := by decide +kernel
theorem dX11_proof_97 : decode cX11_proof 97 = .ok (.getfield 186, 3) := by decide +kernel
theorem dX11_proof_100 : decode cX11_proof 100 = .ok (.lreturn, 1) := by decide +kernel
theorem dX11_check_0 : decode cX11_check 0 = .ok (.iload_n 1, 1) := by decide +kernel
theorem dX11_check_1 : decode cX11_check 1 = .ok (.invokestatic 153, 3) := by decide +kernel
theorem dX11_check_4 : decode cX11_check 4 = .ok (.ifCond .eq 35, 3) := by decide +kernel
theorem dX11_check_7 : decode cX11_check 7 = .ok (.iload 4, 2) := by decide +kernel
theorem dX11_check_9 : decode cX11_check 9 = .ok (.ifCond .lt 30, 3) := by decide +kernel
theorem dX11_check_12 : decode cX11_check 12 = .ok (.iload 4, 2) := by decide +kernel
theorem dX11_check_14 : decode cX11_check 14 = .ok (.iload_n 1, 1) := by decide +kernel
theorem dX11_check_15 : decode cX11_check 15 = .ok (.if_icmp .gt 24, 3) := by decide +kernel
theorem dX11_check_18 : decode cX11_check 18 = .ok (.iload 7, 2) := by decide +kernel
theorem dX11_check_20 : decode cX11_check 20 = .ok (.ifCond .lt 19, 3) := by decide +kernel
theorem dX11_check_23 : decode cX11_check 23 = .ok (.iload 7, 2) := by decide +kernel
theorem dX11_check_25 : decode cX11_check 25 = .ok (.iconst 1, 1) := by decide +kernel
theorem dX11_check_26 : decode cX11_check 26 = .ok (.if_icmp .gt 13, 3) := by decide +kernel
theorem dX11_check_29 : decode cX11_check 29 = .ok (.lload_n 2, 1) := by decide +kernel
theorem dX11_check_30 : decode cX11_check 30 = .ok (.iload_n 1, 1) := by decide +kernel
theorem dX11_check_31 : decode cX11_check 31 = .ok (.invokestatic 105, 3) := by decide +kernel
theorem dX11_check_34 : decode cX11_check 34 = .ok (.lconst 0, 1) := by decide +kernel
theorem dX11_check_35 : decode cX11_check 35 = .ok (.lcmp, 1) := by decide +kernel
theorem dX11_check_36 : decode cX11_check 36 = .ok (.ifCond .ne 5, 3) := by decide +kernel
theorem dX11_check_39 : decode cX11_check 39 = .ok (.iconst (-1), 1) := by decide +kernel
theorem dX11_check_40 : decode cX11_check 40 = .ok (.ireturn, 1) := by decide +kernel
theorem dX11_check_41 : decode cX11_check 41 = .ok (.lload 5, 2) := by decide +kernel
theorem dX11_check_43 : decode cX11_check 43 = .ok (.iload_n 1, 1) := by decide +kernel
theorem dX11_check_44 : decode cX11_check 44 = .ok (.invokestatic 105, 3) := by decide +kernel
theorem dX11_check_47 : decode cX11_check 47 = .ok (.lstore 8, 2) := by decide +kernel
theorem dX11_check_49 : decode cX11_check 49 = .ok (.lload_n 2, 1) := by decide +kernel
theorem dX11_check_50 : decode cX11_check 50 = .ok (.iload_n 1, 1) := by decide +kernel
theorem dX11_check_51 : decode cX11_check 51 = .ok (.invokestatic 105, 3) := by decide +kernel
theorem dX11_check_54 : decode cX11_check 54 = .ok (.lstore 10, 2) := by decide +kernel
theorem dX11_check_56 : decode cX11_check 56 = .ok (.iconst 0, 1) := by decide +kernel
theorem dX11_check_57 : decode cX11_check 57 = .ok (.istore 12, 2) := by decide +kernel
theorem dX11_check_59 : decode cX11_check 59 = .ok (.iload 12, 2) := by decide +kernel
theorem dX11_check_61 : decode cX11_check 61 = .ok (.bipush 8, 2) := by decide +kernel
theorem dX11_check_63 : decode cX11_check 63 = .ok (.if_icmp .ge 17, 3) := by decide +kernel
theorem dX11_check_66 : decode cX11_check 66 = .ok (.aload_n 0, 1) := by decide +kernel
theorem dX11_check_67 : decode cX11_check 67 = .ok (.getfield 53, 3) := by decide +kernel
theorem dX11_check_70 : decode cX11_check 70 = .ok (.iload 12, 2) := by decide +kernel
theorem dX11_check_72 : decode cX11_check 72 = .ok (.lconst 0, 1) := by decide +kernel
theorem dX11_check_73 : decode cX11_check 73 = .ok (.lastore, 1) := by decide +kernel
theorem dX11_check_74 : decode cX11_check 74 = .ok (.iinc 12 1, 3) := by decide +kernel
theorem dX11_check_77 : decode cX11_check 77 = .ok (.goto (-18), 3) := by decide +kernel
theorem dX11_check_80 : decode cX11_check 80 = .ok (.aload_n 0, 1) := by decide +kernel
theorem dX11_check_81 : decode cX11_check 81 = .ok (.getfield 53, 3) := by decide +kernel
theorem dX11_check_84 : decode cX11_check 84 = .ok (.iconst 0, 1) := by decide +kernel
theorem dX11_check_85 : decode cX11_check 85 = .ok (.lload 8, 2) := by decide +kernel
theorem dX11_check_87 : decode cX11_check 87 = .ok (.lload 10, 2) := by decide +kernel
theorem dX11_check_89 : decode cX11_check 89 = .ok (.lmul, 1) := by decide +kernel
theorem dX11_check_90 : decode cX11_check 90 = .ok (.ldc2_w 95, 3) := by decide +kernel
theorem dX11_check_93 : decode cX11_check 93 = .ok (.land, 1) := by decide +kernel
theorem dX11_check_94 : decode cX11_check 94 = .ok (.lastore, 1) := by decide +kernel
theorem dX11_check_95 : decode cX11_check 95 = .ok (.aload_n 0, 1) := by decide +kernel
theorem dX11_check_96 : decode cX11_check 96 = .ok (.getfield 53, 3) := by decide +kernel
theorem dX11_check_99 : decode cX11_check 99 = .ok (.iconst 1, 1) := by decide +kernel
theorem dX11_check_100 : decode cX11_check 100 = .ok (.lload 8, 2) := by decide +kernel
theorem dX11_check_102 : decode cX11_check 102 = .ok (.lload 10, 2) := by decide +kernel
theorem dX11_check_104 : decode cX11_check 104 = .ok (.lmul, 1) := by decide +kernel
theorem dX11_check_105 : decode cX11_check 105 = .ok (.bipush 32, 2) := by decide +kernel
theorem dX11_check_107 : decode cX11_check 107 = .ok (.lushr, 1) := by decide +kernel
theorem dX11_check_108 : decode cX11_check 108 = .ok (.lastore, 1) := by decide +kernel
theorem dX11_check_109 : decode cX11_check 109 = .ok (.lload 8, 2) := by decide +kernel
theorem dX11_check_111 : decode cX11_check 111 = .ok (.lload 10, 2) := by decide +kernel
theorem dX11_check_113 : decode cX11_check 113 = .ok (.invokestatic 97, 3) := by decide +kernel
theorem dX11_check_116 : decode cX11_check 116 = .ok (.lstore 12, 2) := by decide +kernel
theorem dX11_check_118 : decode cX11_check 118 = .ok (.aload_n 0, 1) := by decide +kernel
theorem dX11_check_119 : decode cX11_check 119 = .ok (.getfield 53, 3) := by decide +kernel
theorem dX11_check_122 : decode cX11_check 122 = .ok (.iconst 2, 1) := by decide +kernel
theorem dX11_check_123 : decode cX11_check 123 = .ok (.lload 12, 2) := by decide +kernel
theorem dX11_check_125 : decode cX11_check 125 = .ok (.ldc2_w 95, 3) := by decide +kernel
theorem dX11_check_128 : decode cX11_check 128 = .ok (.land, 1) := by decide +kernel
theorem dX11_check_129 : decode cX11_check 129 = .ok (.lastore, 1) := by decide +kernel
theorem dX11_check_130 : decode cX11_check 130 = .ok (.aload_n 0, 1) := by decide +kernel
theorem dX11_check_131 : decode cX11_check 131 = .ok (.getfield 53, 3) := by decide +kernel
theorem dX11_check_134 : decode cX11_check 134 = .ok (.iconst 3, 1) := by decide +kernel
theorem dX11_check_135 : decode cX11_check 135 = .ok (.lload 12, 2) := by decide +kernel
theorem dX11_check_137 : decode cX11_check 137 = .ok (.bipush 32, 2) := by decide +kernel
theorem dX11_check_139 : decode cX11_check 139 = .ok (.lushr, 1) := by decide +kernel
theorem dX11_check_140 : decode cX11_check 140 = .ok (.lastore, 1) := by decide +kernel
theorem dX11_check_141 : decode cX11_check 141 = .ok (.iconst 0, 1) := by decide +kernel
theorem dX11_check_142 : decode cX11_check 142 = .ok (.istore 14, 2) := by decide +kernel
theorem dX11_check_144 : decode cX11_check 144 = .ok (.iload 14, 2) := by decide +kernel
theorem dX11_check_146 : decode cX11_check 146 = .ok (.bipush 64, 2) := by decide +kernel
theorem dX11_check_148 : decode cX11_check 148 = .ok (.if_icmp .ge 30, 3) := by decide +kernel
theorem dX11_check_151 : decode cX11_check 151 = .ok (.iload 7, 2) := by decide +kernel
theorem dX11_check_153 : decode cX11_check 153 = .ok (.iconst 1, 1) := by decide +kernel
theorem dX11_check_154 : decode cX11_check 154 = .ok (.if_icmp .ne 24, 3) := by decide +kernel
theorem dX11_check_157 : decode cX11_check 157 = .ok (.aload_n 0, 1) := by decide +kernel
theorem dX11_check_158 : decode cX11_check 158 = .ok (.lload 10, 2) := by decide +kernel
theorem dX11_check_160 : decode cX11_check 160 = .ok (.iload 14, 2) := by decide +kernel
theorem dX11_check_162 : decode cX11_check 162 = .ok (.lushr, 1) := by decide +kernel
theorem dX11_check_163 : decode cX11_check 163 = .ok (.lconst 1, 1) := by decide +kernel
theorem dX11_check_164 : decode cX11_check 164 = .ok (.land, 1) := by decide +kernel
theorem dX11_check_165 : decode cX11_check 165 = .ok (.iload_n 1, 1) := by decide +kernel
theorem dX11_check_166 : decode cX11_check 166 = .ok (.iload 14, 2) := by decide +kernel
theorem dX11_check_168 : decode cX11_check 168 = .ok (.iadd, 1) := by decide +kernel
theorem dX11_check_169 : decode cX11_check 169 = .ok (.invokevirtual 251, 3) := by decide +kernel
theorem dX11_check_172 : decode cX11_check 172 = .ok (.iinc 14 1, 3) := by decide +kernel
theorem dX11_check_175 : decode cX11_check 175 = .ok (.goto (-31), 3) := by decide +kernel
theorem dX11_check_178 : decode cX11_check 178 = .ok (.aload_n 0, 1) := by decide +kernel
theorem dX11_check_179 : decode cX11_check 179 = .ok (.iload_n 1, 1) := by decide +kernel
theorem dX11_check_180 : decode cX11_check 180 = .ok (.iload 4, 2) := by decide +kernel
theorem dX11_check_182 : decode cX11_check 182 = .ok (.iadd, 1) := by decide +kernel
theorem dX11_check_183 : decode cX11_check 183 = .ok (.invokevirtual 255, 3) := by decide +kernel
theorem dX11_check_186 : decode cX11_check 186 = .ok (.aload_n 0, 1) := by decide +kernel
theorem dX11_check_187 : decode cX11_check 187 = .ok (.getfield 53, 3) := by decide +kernel
theorem dX11_check_190 : decode cX11_check 190 = .ok (.bipush 7, 2) := by decide +kernel
theorem dX11_check_192 : decode cX11_check 192 = .ok (.laload, 1) := by decide +kernel
theorem dX11_check_193 : decode cX11_check 193 = .ok (.lconst 0, 1) := by decide +kernel
theorem dX11_check_194 : decode cX11_check 194 = .ok (.lcmp, 1) := by decide +kernel
theorem dX11_check_195 : decode cX11_check 195 = .ok (.ifCond .eq 5, 3) := by decide +kernel
theorem dX11_check_198 : decode cX11_check 198 = .ok (.iconst 0, 1) := by decide +kernel
theorem dX11_check_199 : decode cX11_check 199 = .ok (.ireturn, 1) := by decide +kernel
theorem dX11_check_200 : decode cX11_check 200 = .ok (.iconst (-1), 1) := by decide +kernel
theorem dX11_check_201 : decode cX11_check 201 = .ok (.istore 14, 2) := by decide +kernel
theorem dX11_check_203 : decode cX11_check 203 = .ok (.iconst 0, 1) := by decide +kernel
theorem dX11_check_204 : decode cX11_check 204 = .ok (.istore 15, 2) := by decide +kernel
theorem dX11_check_206 : decode cX11_check 206 = .ok (.iconst 0, 1) := by decide +kernel
theorem dX11_check_207 : decode cX11_check 207 = .ok (.istore 16, 2) := by decide +kernel
theorem dX11_check_209 : decode cX11_check 209 = .ok (.iload 16, 2) := by decide +kernel
theorem dX11_check_211 : decode cX11_check 211 = .ok (.sipush 200, 3) := by decide +kernel
theorem dX11_check_214 : decode cX11_check 214 = .ok (.if_icmp .ge 42, 3) := by decide +kernel
theorem dX11_check_217 : decode cX11_check 217 = .ok (.aload_n 0, 1) := by decide +kernel
theorem dX11_check_218 : decode cX11_check 218 = .ok (.getfield 53, 3) := by decide +kernel
theorem dX11_check_221 : decode cX11_check 221 = .ok (.iload 16, 2) := by decide +kernel
theorem dX11_check_223 : decode cX11_check 223 = .ok (.bipush 32, 2) := by decide +kernel
theorem dX11_check_225 : decode cX11_check 225 = .ok (.idiv, 1) := by decide +kernel
theorem dX11_check_226 : decode cX11_check 226 = .ok (.laload, 1) := by decide +kernel
theorem dX11_check_227 : decode cX11_check 227 = .ok (.iload 16, 2) := by decide +kernel
theorem dX11_check_229 : decode cX11_check 229 = .ok (.bipush 32, 2) := by decide +kernel
theorem dX11_check_231 : decode cX11_check 231 = .ok (.irem, 1) := by decide +kernel
theorem dX11_check_232 : decode cX11_check 232 = .ok (.lushr, 1) := by decide +kernel
theorem dX11_check_233 : decode cX11_check 233 = .ok (.lconst 1, 1) := by decide +kernel
theorem dX11_check_234 : decode cX11_check 234 = .ok (.land, 1) := by decide +kernel
theorem dX11_check_235 : decode cX11_check 235 = .ok (.lconst 0, 1) := by decide +kernel
theorem dX11_check_236 : decode cX11_check 236 = .ok (.lcmp, 1) := by decide +kernel
theorem dX11_check_237 : decode cX11_check 237 = .ok (.ifCond .ne 6, 3) := by decide +kernel
theorem dX11_check_240 : decode cX11_check 240 = .ok (.goto 10, 3) := by decide +kernel
theorem dX11_check_243 : decode cX11_check 243 = .ok (.iload 16, 2) := by decide +kernel
theorem dX11_check_245 : decode cX11_check 245 = .ok (.istore 14, 2) := by decide +kernel
theorem dX11_check_247 : decode cX11_check 247 = .ok (.iinc 15 1, 3) := by decide +kernel
theorem dX11_check_250 : decode cX11_check 250 = .ok (.iinc 16 1, 3) := by decide +kernel
theorem dX11_check_253 : decode cX11_check 253 = .ok (.goto (-44), 3) := by decide +kernel
theorem dX11_check_256 : decode cX11_check 256 = .ok (.iload 14, 2) := by decide +kernel
theorem dX11_check_258 : decode cX11_check 258 = .ok (.iload 4, 2) := by decide +kernel
theorem dX11_check_260 : decode cX11_check 260 = .ok (.if_icmp .lt 16, 3) := by decide +kernel
theorem dX11_check_263 : decode cX11_check 263 = .ok (.iload 14, 2) := by decide +kernel
theorem dX11_check_265 : decode cX11_check 265 = .ok (.iload 4, 2) := by decide +kernel
theorem dX11_check_267 : decode cX11_check 267 = .ok (.if_icmp .ne 13, 3) := by decide +kernel
theorem dX11_check_270 : decode cX11_check 270 = .ok (.iload 15, 2) := by decide +kernel
theorem dX11_check_272 : decode cX11_check 272 = .ok (.iconst 1, 1) := by decide +kernel
theorem dX11_check_273 : decode cX11_check 273 = .ok (.if_icmp .ne 7, 3) := by decide +kernel
theorem dX11_check_276 : decode cX11_check 276 = .ok (.iconst 1, 1) := by decide +kernel
theorem dX11_check_277 : decode cX11_check 277 = .ok (.goto 4, 3) := by decide +kernel
theorem dX11_check_280 : decode cX11_check 280 = .ok (.iconst 0, 1) := by decide +kernel
theorem dX11_check_281 : decode cX11_check 281 = .ok (.ireturn, 1) := by decide +kernel
theorem dX11_addBit_0 : decode cX11_addBit 0 = .ok (.lload_n 1, 1) := by decide +kernel
theorem dX11_addBit_1 : decode cX11_addBit 1 = .ok (.lconst 0, 1) := by decide +kernel
theorem dX11_addBit_2 : decode cX11_addBit 2 = .ok (.lcmp, 1) := by decide +kernel
theorem dX11_addBit_3 : decode cX11_addBit 3 = .ok (.ifCond .ne 4, 3) := by decide +kernel
theorem dX11_addBit_6 : decode cX11_addBit 6 = .ok (.return_, 1) := by decide +kernel
theorem dX11_addBit_7 : decode cX11_addBit 7 = .ok (.iload_n 3, 1) := by decide +kernel
theorem dX11_addBit_8 : decode cX11_addBit 8 = .ok (.bipush 32, 2) := by decide +kernel
theorem dX11_addBit_10 : decode cX11_addBit 10 = .ok (.idiv, 1) := by decide +kernel
theorem dX11_addBit_11 : decode cX11_addBit 11 = .ok (.istore 4, 2) := by decide +kernel
theorem dX11_addBit_13 : decode cX11_addBit 13 = .ok (.aload_n 0, 1) := by decide +kernel
theorem dX11_addBit_14 : decode cX11_addBit 14 = .ok (.getfield 53, 3) := by decide +kernel
theorem dX11_addBit_17 : decode cX11_addBit 17 = .ok (.iload 4, 2) := by decide +kernel
theorem dX11_addBit_19 : decode cX11_addBit 19 = .ok (.dup2, 1) := by decide +kernel
theorem dX11_addBit_20 : decode cX11_addBit 20 = .ok (.laload, 1) := by decide +kernel
theorem dX11_addBit_21 : decode cX11_addBit 21 = .ok (.lconst 1, 1) := by decide +kernel
theorem dX11_addBit_22 : decode cX11_addBit 22 = .ok (.iload_n 3, 1) := by decide +kernel
theorem dX11_addBit_23 : decode cX11_addBit 23 = .ok (.bipush 32, 2) := by decide +kernel
theorem dX11_addBit_25 : decode cX11_addBit 25 = .ok (.irem, 1) := by decide +kernel
theorem dX11_addBit_26 : decode cX11_addBit 26 = .ok (.lshl, 1) := by decide +kernel
theorem dX11_addBit_27 : decode cX11_addBit 27 = .ok (.ladd, 1) := by decide +kernel
theorem dX11_addBit_28 : decode cX11_addBit 28 = .ok (.lastore, 1) := by decide +kernel
theorem dX11_addBit_29 : decode cX11_addBit 29 = .ok (.aload_n 0, 1) := by decide +kernel
theorem dX11_addBit_30 : decode cX11_addBit 30 = .ok (.getfield 53, 3) := by decide +kernel
theorem dX11_addBit_33 : decode cX11_addBit 33 = .ok (.iload 4, 2) := by decide +kernel
theorem dX11_addBit_35 : decode cX11_addBit 35 = .ok (.laload, 1) := by decide +kernel
theorem dX11_addBit_36 : decode cX11_addBit 36 = .ok (.ldc2_w 95, 3) := by decide +kernel
theorem dX11_addBit_39 : decode cX11_addBit 39 = .ok (.lcmp, 1) := by decide +kernel
theorem dX11_addBit_40 : decode cX11_addBit 40 = .ok (.ifCond .le 33, 3) := by decide +kernel
theorem dX11_addBit_43 : decode cX11_addBit 43 = .ok (.aload_n 0, 1) := by decide +kernel
theorem dX11_addBit_44 : decode cX11_addBit 44 = .ok (.getfield 53, 3) := by decide +kernel
theorem dX11_addBit_47 : decode cX11_addBit 47 = .ok (.iload 4, 2) := by decide +kernel
theorem dX11_addBit_49 : decode cX11_addBit 49 = .ok (.dup2, 1) := by decide +kernel
theorem dX11_addBit_50 : decode cX11_addBit 50 = .ok (.laload, 1) := by decide +kernel
theorem dX11_addBit_51 : decode cX11_addBit 51 = .ok (.ldc2_w 259, 3) := by decide +kernel
theorem dX11_addBit_54 : decode cX11_addBit 54 = .ok (.lsub, 1) := by decide +kernel
theorem dX11_addBit_55 : decode cX11_addBit 55 = .ok (.lastore, 1) := by decide +kernel
theorem dX11_addBit_56 : decode cX11_addBit 56 = .ok (.iinc 4 1, 3) := by decide +kernel
theorem dX11_addBit_59 : decode cX11_addBit 59 = .ok (.aload_n 0, 1) := by decide +kernel
theorem dX11_addBit_60 : decode cX11_addBit 60 = .ok (.getfield 53, 3) := by decide +kernel
theorem dX11_addBit_63 : decode cX11_addBit 63 = .ok (.iload 4, 2) := by decide +kernel
theorem dX11_addBit_65 : decode cX11_addBit 65 = .ok (.dup2, 1) := by decide +kernel
theorem dX11_addBit_66 : decode cX11_addBit 66 = .ok (.laload, 1) := by decide +kernel
theorem dX11_addBit_67 : decode cX11_addBit 67 = .ok (.lconst 1, 1) := by decide +kernel
theorem dX11_addBit_68 : decode cX11_addBit 68 = .ok (.ladd, 1) := by decide +kernel
theorem dX11_addBit_69 : decode cX11_addBit 69 = .ok (.lastore, 1) := by decide +kernel
theorem dX11_addBit_70 : decode cX11_addBit 70 = .ok (.goto (-41), 3) := by decide +kernel
theorem dX11_addBit_73 : decode cX11_addBit 73 = .ok (.return_, 1) := by decide +kernel
theorem dX11_takeBit_0 : decode cX11_takeBit 0 = .ok (.iload_n 1, 1) := by decide +kernel
theorem dX11_takeBit_1 : decode cX11_takeBit 1 = .ok (.bipush 32, 2) := by decide +kernel
theorem dX11_takeBit_3 : decode cX11_takeBit 3 = .ok (.idiv, 1) := by decide +kernel
theorem dX11_takeBit_4 : decode cX11_takeBit 4 = .ok (.istore_n 2, 1) := by decide +kernel
theorem dX11_takeBit_5 : decode cX11_takeBit 5 = .ok (.aload_n 0, 1) := by decide +kernel
theorem dX11_takeBit_6 : decode cX11_takeBit 6 = .ok (.getfield 53, 3) := by decide +kernel
theorem dX11_takeBit_9 : decode cX11_takeBit 9 = .ok (.iload_n 2, 1) := by decide +kernel
theorem dX11_takeBit_10 : decode cX11_takeBit 10 = .ok (.dup2, 1) := by decide +kernel
theorem dX11_takeBit_11 : decode cX11_takeBit 11 = .ok (.laload, 1) := by decide +kernel
theorem dX11_takeBit_12 : decode cX11_takeBit 12 = .ok (.lconst 1, 1) := by decide +kernel
theorem dX11_takeBit_13 : decode cX11_takeBit 13 = .ok (.iload_n 1, 1) := by decide +kernel
theorem dX11_takeBit_14 : decode cX11_takeBit 14 = .ok (.bipush 32, 2) := by decide +kernel
theorem dX11_takeBit_16 : decode cX11_takeBit 16 = .ok (.irem, 1) := by decide +kernel
theorem dX11_takeBit_17 : decode cX11_takeBit 17 = .ok (.lshl, 1) := by decide +kernel
theorem dX11_takeBit_18 : decode cX11_takeBit 18 = .ok (.lsub, 1) := by decide +kernel
theorem dX11_takeBit_19 : decode cX11_takeBit 19 = .ok (.lastore, 1) := by decide +kernel
theorem dX11_takeBit_20 : decode cX11_takeBit 20 = .ok (.iload_n 2, 1) := by decide +kernel
theorem dX11_takeBit_21 : decode cX11_takeBit 21 = .ok (.bipush 7, 2) := by decide +kernel
theorem dX11_takeBit_23 : decode cX11_takeBit 23 = .ok (.if_icmp .ge 42, 3) := by decide +kernel
theorem dX11_takeBit_26 : decode cX11_takeBit 26 = .ok (.aload_n 0, 1) := by decide +kernel
theorem dX11_takeBit_27 : decode cX11_takeBit 27 = .ok (.getfield 53, 3) := by decide +kernel
theorem dX11_takeBit_30 : decode cX11_takeBit 30 = .ok (.iload_n 2, 1) := by decide +kernel
theorem dX11_takeBit_31 : decode cX11_takeBit 31 = .ok (.laload, 1) := by decide +kernel
theorem dX11_takeBit_32 : decode cX11_takeBit 32 = .ok (.lconst 0, 1) := by decide +kernel
theorem dX11_takeBit_33 : decode cX11_takeBit 33 = .ok (.lcmp, 1) := by decide +kernel
theorem dX11_takeBit_34 : decode cX11_takeBit 34 = .ok (.ifCond .ge 31, 3) := by decide +kernel
theorem dX11_takeBit_37 : decode cX11_takeBit 37 = .ok (.aload_n 0, 1) := by decide +kernel
theorem dX11_takeBit_38 : decode cX11_takeBit 38 = .ok (.getfield 53, 3) := by decide +kernel
theorem dX11_takeBit_41 : decode cX11_takeBit 41 = .ok (.iload_n 2, 1) := by decide +kernel
theorem dX11_takeBit_42 : decode cX11_takeBit 42 = .ok (.dup2, 1) := by decide +kernel
theorem dX11_takeBit_43 : decode cX11_takeBit 43 = .ok (.laload, 1) := by decide +kernel
theorem dX11_takeBit_44 : decode cX11_takeBit 44 = .ok (.ldc2_w 259, 3) := by decide +kernel
theorem dX11_takeBit_47 : decode cX11_takeBit 47 = .ok (.ladd, 1) := by decide +kernel
theorem dX11_takeBit_48 : decode cX11_takeBit 48 = .ok (.lastore, 1) := by decide +kernel
theorem dX11_takeBit_49 : decode cX11_takeBit 49 = .ok (.iinc 2 1, 3) := by decide +kernel
theorem dX11_takeBit_52 : decode cX11_takeBit 52 = .ok (.aload_n 0, 1) := by decide +kernel
theorem dX11_takeBit_53 : decode cX11_takeBit 53 = .ok (.getfield 53, 3) := by decide +kernel
theorem dX11_takeBit_56 : decode cX11_takeBit 56 = .ok (.iload_n 2, 1) := by decide +kernel
theorem dX11_takeBit_57 : decode cX11_takeBit 57 = .ok (.dup2, 1) := by decide +kernel
theorem dX11_takeBit_58 : decode cX11_takeBit 58 = .ok (.laload, 1) := by decide +kernel
theorem dX11_takeBit_59 : decode cX11_takeBit 59 = .ok (.lconst 1, 1) := by decide +kernel
theorem dX11_takeBit_60 : decode cX11_takeBit 60 = .ok (.lsub, 1) := by decide +kernel
theorem dX11_takeBit_61 : decode cX11_takeBit 61 = .ok (.lastore, 1) := by decide +kernel
theorem dX11_takeBit_62 : decode cX11_takeBit 62 = .ok (.goto (-42), 3) := by decide +kernel
theorem dX11_takeBit_65 : decode cX11_takeBit 65 = .ok (.return_, 1) := by decide +kernel
theorem dX11_inverse_0 : decode cX11_inverse 0 = .ok (.iload_n 1, 1) := by decide +kernel
theorem dX11_inverse_1 : decode cX11_inverse 1 = .ok (.invokestatic 153, 3) := by decide +kernel
theorem dX11_inverse_4 : decode cX11_inverse 4 = .ok (.ifCond .eq 22, 3) := by decide +kernel
theorem dX11_inverse_7 : decode cX11_inverse 7 = .ok (.lload_n 2, 1) := by decide +kernel
theorem dX11_inverse_8 : decode cX11_inverse 8 = .ok (.lconst 1, 1) := by decide +kernel
theorem dX11_inverse_9 : decode cX11_inverse 9 = .ok (.land, 1) := by decide +kernel
theorem dX11_inverse_10 : decode cX11_inverse 10 = .ok (.lconst 1, 1) := by decide +kernel
theorem dX11_inverse_11 : decode cX11_inverse 11 = .ok (.lcmp, 1) := by decide +kernel
theorem dX11_inverse_12 : decode cX11_inverse 12 = .ok (.ifCond .ne 14, 3) := by decide +kernel
theorem dX11_inverse_15 : decode cX11_inverse 15 = .ok (.lload_n 2, 1) := by decide +kernel
theorem dX11_inverse_16 : decode cX11_inverse 16 = .ok (.invokestatic 198, 3) := by decide +kernel
theorem dX11_inverse_19 : decode cX11_inverse 19 = .ok (.iload_n 1, 1) := by decide +kernel
theorem dX11_inverse_20 : decode cX11_inverse 20 = .ok (.invokestatic 105, 3) := by decide +kernel
theorem dX11_inverse_23 : decode cX11_inverse 23 = .ok (.goto 4, 3) := by decide +kernel
