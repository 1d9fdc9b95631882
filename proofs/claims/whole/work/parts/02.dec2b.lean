theorem dX10_rowAnswer_28 : decode cX10_rowAnswer 28 = .ok (.iload_n 3, 1) := by decide +kernel
theorem dX10_rowAnswer_29 : decode cX10_rowAnswer 29 = .ok (.iload 4, 2) := by decide +kernel
theorem dX10_rowAnswer_31 : decode cX10_rowAnswer 31 = .ok (.i2l, 1) := by decide +kernel
theorem dX10_rowAnswer_32 : decode cX10_rowAnswer 32 = .ok (.lastore, 1) := by decide +kernel
theorem dX10_rowAnswer_33 : decode cX10_rowAnswer 33 = .ok (.aload_n 0, 1) := by decide +kernel
theorem dX10_rowAnswer_34 : decode cX10_rowAnswer 34 = .ok (.getfield 39, 3) := by decide +kernel
theorem dX10_rowAnswer_37 : decode cX10_rowAnswer 37 = .ok (.new 100, 3) := by decide +kernel
theorem dX10_rowAnswer_40 : decode cX10_rowAnswer 40 = .ok (.dup, 1) := by decide +kernel
theorem dX10_rowAnswer_41 : decode cX10_rowAnswer 41 = .ok (.iconst 5, 1) := by decide +kernel
theorem dX10_rowAnswer_42 : decode cX10_rowAnswer 42 = .ok (.iload_n 1, 1) := by decide +kernel
theorem dX10_rowAnswer_43 : decode cX10_rowAnswer 43 = .ok (.iload_n 3, 1) := by decide +kernel
theorem dX10_rowAnswer_44 : decode cX10_rowAnswer 44 = .ok (.lload 6, 2) := by decide +kernel
theorem dX10_rowAnswer_46 : decode cX10_rowAnswer 46 = .ok (.aload 5, 2) := by decide +kernel
theorem dX10_rowAnswer_48 : decode cX10_rowAnswer 48 = .ok (.invokespecial 102, 3) := by decide +kernel
theorem dX10_rowAnswer_51 : decode cX10_rowAnswer 51 = .ok (.invokevirtual 105, 3) := by decide +kernel
theorem dX10_rowAnswer_54 : decode cX10_rowAnswer 54 = .ok (.lload 6, 2) := by decide +kernel
theorem dX10_rowAnswer_56 : decode cX10_rowAnswer 56 = .ok (.l2i, 1) := by decide +kernel
theorem dX10_rowAnswer_57 : decode cX10_rowAnswer 57 = .ok (.ireturn, 1) := by decide +kernel
theorem dX10_rowAnswer_58 : decode cX10_rowAnswer 58 = .ok (.iload_n 2, 1) := by decide +kernel
theorem dX10_rowAnswer_59 : decode cX10_rowAnswer 59 = .ok (.bipush 7, 2) := by decide +kernel
theorem dX10_rowAnswer_61 : decode cX10_rowAnswer 61 = .ok (.if_icmp .eq 13, 3) := by decide +kernel
theorem dX10_rowAnswer_64 : decode cX10_rowAnswer 64 = .ok (.iload_n 2, 1) := by decide +kernel
theorem dX10_rowAnswer_65 : decode cX10_rowAnswer 65 = .ok (.bipush 8, 2) := by decide +kernel
theorem dX10_rowAnswer_67 : decode cX10_rowAnswer 67 = .ok (.if_icmp .eq 7, 3) := by decide +kernel
theorem dX10_rowAnswer_70 : decode cX10_rowAnswer 70 = .ok (.lload 6, 2) := by decide +kernel
theorem dX10_rowAnswer_72 : decode cX10_rowAnswer 72 = .ok (.l2i, 1) := by decide +kernel
theorem dX10_rowAnswer_73 : decode cX10_rowAnswer 73 = .ok (.ireturn, 1) := by decide +kernel
theorem dX10_rowAnswer_74 : decode cX10_rowAnswer 74 = .ok (.aload 5, 2) := by decide +kernel
theorem dX10_rowAnswer_76 : decode cX10_rowAnswer 76 = .ok (.iload 4, 2) := by decide +kernel
theorem dX10_rowAnswer_78 : decode cX10_rowAnswer 78 = .ok (.invokevirtual 245, 3) := by decide +kernel
theorem dX10_rowAnswer_81 : decode cX10_rowAnswer 81 = .ok (.ifCond .ne 6, 3) := by decide +kernel
theorem dX10_rowAnswer_84 : decode cX10_rowAnswer 84 = .ok (.bipush (-13), 2) := by decide +kernel
theorem dX10_rowAnswer_86 : decode cX10_rowAnswer 86 = .ok (.ireturn, 1) := by decide +kernel
theorem dX10_rowAnswer_87 : decode cX10_rowAnswer 87 = .ok (.aload 5, 2) := by decide +kernel
theorem dX10_rowAnswer_89 : decode cX10_rowAnswer 89 = .ok (.getfield 287, 3) := by decide +kernel
theorem dX10_rowAnswer_92 : decode cX10_rowAnswer 92 = .ok (.iload 4, 2) := by decide +kernel
theorem dX10_rowAnswer_94 : decode cX10_rowAnswer 94 = .ok (.laload, 1) := by decide +kernel
theorem dX10_rowAnswer_95 : decode cX10_rowAnswer 95 = .ok (.lstore 8, 2) := by decide +kernel
theorem dX10_rowAnswer_97 : decode cX10_rowAnswer 97 = .ok (.lload 8, 2) := by decide +kernel
theorem dX10_rowAnswer_99 : decode cX10_rowAnswer 99 = .ok (.lconst 0, 1) := by decide +kernel
theorem dX10_rowAnswer_100 : decode cX10_rowAnswer 100 = .ok (.lcmp, 1) := by decide +kernel
theorem dX10_rowAnswer_101 : decode cX10_rowAnswer 101 = .ok (.ifCond .ne 6, 3) := by decide +kernel
theorem dX10_rowAnswer_104 : decode cX10_rowAnswer 104 = .ok (.bipush (-16), 2) := by decide +kernel
theorem dX10_rowAnswer_106 : decode cX10_rowAnswer 106 = .ok (.ireturn, 1) := by decide +kernel
theorem dX10_rowAnswer_107 : decode cX10_rowAnswer 107 = .ok (.iload_n 2, 1) := by decide +kernel
theorem dX10_rowAnswer_108 : decode cX10_rowAnswer 108 = .ok (.bipush 7, 2) := by decide +kernel
theorem dX10_rowAnswer_110 : decode cX10_rowAnswer 110 = .ok (.if_icmp .ne 11, 3) := by decide +kernel
theorem dX10_rowAnswer_113 : decode cX10_rowAnswer 113 = .ok (.lload 6, 2) := by decide +kernel
theorem dX10_rowAnswer_115 : decode cX10_rowAnswer 115 = .ok (.lload 8, 2) := by decide +kernel
theorem dX10_rowAnswer_117 : decode cX10_rowAnswer 117 = .ok (.ldiv, 1) := by decide +kernel
theorem dX10_rowAnswer_118 : decode cX10_rowAnswer 118 = .ok (.goto 8, 3) := by decide +kernel
theorem dX10_rowAnswer_121 : decode cX10_rowAnswer 121 = .ok (.lload 6, 2) := by decide +kernel
theorem dX10_rowAnswer_123 : decode cX10_rowAnswer 123 = .ok (.lload 8, 2) := by decide +kernel
theorem dX10_rowAnswer_125 : decode cX10_rowAnswer 125 = .ok (.lrem, 1) := by decide +kernel
theorem dX10_rowAnswer_126 : decode cX10_rowAnswer 126 = .ok (.l2i, 1) := by decide +kernel
theorem dX10_rowAnswer_127 : decode cX10_rowAnswer 127 = .ok (.ireturn, 1) := by decide +kernel
