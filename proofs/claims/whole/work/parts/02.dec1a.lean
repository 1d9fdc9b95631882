theorem dX8_init_0 : decode cX8_init 0 = .ok (.aload_n 0, 1) := by decide +kernel
theorem dX8_init_1 : decode cX8_init 1 = .ok (.invokespecial 3, 3) := by decide +kernel
theorem dX8_init_4 : decode cX8_init 4 = .ok (.aload_n 0, 1) := by decide +kernel
theorem dX8_init_5 : decode cX8_init 5 = .ok (.bipush 13, 2) := by decide +kernel
theorem dX8_init_7 : decode cX8_init 7 = .ok (.newarray .int, 2) := by decide +kernel
theorem dX8_init_9 : decode cX8_init 9 = .ok (.putfield 9, 3) := by decide +kernel
theorem dX8_init_12 : decode cX8_init 12 = .ok (.aload_n 0, 1) := by decide +kernel
theorem dX8_init_13 : decode cX8_init 13 = .ok (.sipush 256, 3) := by decide +kernel
theorem dX8_init_16 : decode cX8_init 16 = .ok (.newarray .long, 2) := by decide +kernel
theorem dX8_init_18 : decode cX8_init 18 = .ok (.putfield 15, 3) := by decide +kernel
theorem dX8_init_21 : decode cX8_init 21 = .ok (.aload_n 0, 1) := by decide +kernel
theorem dX8_init_22 : decode cX8_init 22 = .ok (.iconst 3, 1) := by decide +kernel
theorem dX8_init_23 : decode cX8_init 23 = .ok (.sipush 256, 3) := by decide +kernel
theorem dX8_init_26 : decode cX8_init 26 = .ok (.multianewarray 19 2, 4) := by decide +kernel
theorem dX8_init_30 : decode cX8_init 30 = .ok (.putfield 21, 3) := by decide +kernel
theorem dX8_init_33 : decode cX8_init 33 = .ok (.aload_n 0, 1) := by decide +kernel
theorem dX8_init_34 : decode cX8_init 34 = .ok (.iconst 3, 1) := by decide +kernel
theorem dX8_init_35 : decode cX8_init 35 = .ok (.newarray .int, 2) := by decide +kernel
theorem dX8_init_37 : decode cX8_init 37 = .ok (.putfield 24, 3) := by decide +kernel
theorem dX8_init_40 : decode cX8_init 40 = .ok (.aload_n 0, 1) := by decide +kernel
theorem dX8_init_41 : decode cX8_init 41 = .ok (.sipush 144, 3) := by decide +kernel
theorem dX8_init_44 : decode cX8_init 44 = .ok (.newarray .int, 2) := by decide +kernel
theorem dX8_init_46 : decode cX8_init 46 = .ok (.putfield 27, 3) := by decide +kernel
theorem dX8_init_49 : decode cX8_init 49 = .ok (.aload_n 0, 1) := by decide +kernel
theorem dX8_init_50 : decode cX8_init 50 = .ok (.sipush 144, 3) := by decide +kernel
theorem dX8_init_53 : decode cX8_init 53 = .ok (.newarray .int, 2) := by decide +kernel
theorem dX8_init_55 : decode cX8_init 55 = .ok (.putfield 30, 3) := by decide +kernel
theorem dX8_init_58 : decode cX8_init 58 = .ok (.aload_n 0, 1) := by decide +kernel
theorem dX8_init_59 : decode cX8_init 59 = .ok (.sipush 144, 3) := by decide +kernel
theorem dX8_init_62 : decode cX8_init 62 = .ok (.newarray .long, 2) := by decide +kernel
theorem dX8_init_64 : decode cX8_init 64 = .ok (.putfield 33, 3) := by decide +kernel
theorem dX8_init_67 : decode cX8_init 67 = .ok (.aload_n 0, 1) := by decide +kernel
theorem dX8_init_68 : decode cX8_init 68 = .ok (.sipush 144, 3) := by decide +kernel
theorem dX8_init_71 : decode cX8_init 71 = .ok (.newarray .int, 2) := by decide +kernel
theorem dX8_init_73 : decode cX8_init 73 = .ok (.putfield 36, 3) := by decide +kernel
theorem dX8_init_76 : decode cX8_init 76 = .ok (.aload_n 0, 1) := by decide +kernel
theorem dX8_init_77 : decode cX8_init 77 = .ok (.iconst 3, 1) := by decide +kernel
theorem dX8_init_78 : decode cX8_init 78 = .ok (.newarray .int, 2) := by decide +kernel
theorem dX8_init_80 : decode cX8_init 80 = .ok (.putfield 39, 3) := by decide +kernel
theorem dX8_init_83 : decode cX8_init 83 = .ok (.aload_n 0, 1) := by decide +kernel
theorem dX8_init_84 : decode cX8_init 84 = .ok (.iconst 3, 1) := by decide +kernel
theorem dX8_init_85 : decode cX8_init 85 = .ok (.newarray .int, 2) := by decide +kernel
theorem dX8_init_87 : decode cX8_init 87 = .ok (.putfield 42, 3) := by decide +kernel
theorem dX8_init_90 : decode cX8_init 90 = .ok (.return_, 1) := by decide +kernel
theorem dX8_prepare_0 : decode cX8_prepare 0 = .ok (.aload_n 3, 1) := by decide +kernel
theorem dX8_prepare_1 : decode cX8_prepare 1 = .ok (.iconst 0, 1) := by decide +kernel
theorem dX8_prepare_2 : decode cX8_prepare 2 = .ok (.aload_n 0, 1) := by decide +kernel
theorem dX8_prepare_3 : decode cX8_prepare 3 = .ok (.getfield 9, 3) := by decide +kernel
theorem dX8_prepare_6 : decode cX8_prepare 6 = .ok (.iconst 0, 1) := by decide +kernel
theorem dX8_prepare_7 : decode cX8_prepare 7 = .ok (.bipush 13, 2) := by decide +kernel
theorem dX8_prepare_9 : decode cX8_prepare 9 = .ok (.invokestatic 45, 3) := by decide +kernel
theorem dX8_prepare_12 : decode cX8_prepare 12 = .ok (.aload_n 0, 1) := by decide +kernel
theorem dX8_prepare_13 : decode cX8_prepare 13 = .ok (.sipush 1000, 3) := by decide +kernel
theorem dX8_prepare_16 : decode cX8_prepare 16 = .ok (.putfield 51, 3) := by decide +kernel
theorem dX8_prepare_19 : decode cX8_prepare 19 = .ok (.aload_n 0, 1) := by decide +kernel
theorem dX8_prepare_20 : decode cX8_prepare 20 = .ok (.iconst 0, 1) := by decide +kernel
theorem dX8_prepare_21 : decode cX8_prepare 21 = .ok (.putfield 55, 3) := by decide +kernel
theorem dX8_prepare_24 : decode cX8_prepare 24 = .ok (.aload_n 0, 1) := by decide +kernel
theorem dX8_prepare_25 : decode cX8_prepare 25 = .ok (.iconst 0, 1) := by decide +kernel
theorem dX8_prepare_26 : decode cX8_prepare 26 = .ok (.putfield 58, 3) := by decide +kernel
theorem dX8_prepare_29 : decode cX8_prepare 29 = .ok (.iconst 0, 1) := by decide +kernel
theorem dX8_prepare_30 : decode cX8_prepare 30 = .ok (.istore 4, 2) := by decide +kernel
theorem dX8_prepare_32 : decode cX8_prepare 32 = .ok (.iload 4, 2) := by decide +kernel
theorem dX8_prepare_34 : decode cX8_prepare 34 = .ok (.sipush 256, 3) := by decide +kernel
theorem dX8_prepare_37 : decode cX8_prepare 37 = .ok (.if_icmp .ge 73, 3) := by decide +kernel
theorem dX8_prepare_40 : decode cX8_prepare 40 = .ok (.sipush 255, 3) := by decide +kernel
theorem dX8_prepare_43 : decode cX8_prepare 43 = .ok (.iload 4, 2) := by decide +kernel
theorem dX8_prepare_45 : decode cX8_prepare 45 = .ok (.sipush 167, 3) := by decide +kernel
theorem dX8_prepare_48 : decode cX8_prepare 48 = .ok (.imul, 1) := by decide +kernel
theorem dX8_prepare_49 : decode cX8_prepare 49 = .ok (.isub, 1) := by decide +kernel
theorem dX8_prepare_50 : decode cX8_prepare 50 = .ok (.sipush 255, 3) := by decide +kernel
theorem dX8_prepare_53 : decode cX8_prepare 53 = .ok (.iand, 1) := by decide +kernel
theorem dX8_prepare_54 : decode cX8_prepare 54 = .ok (.i2l, 1) := by decide +kernel
theorem dX8_prepare_55 : decode cX8_prepare 55 = .ok (.lstore 5, 2) := by decide +kernel
theorem dX8_prepare_57 : decode cX8_prepare 57 = .ok (.aload_n 1, 1) := by decide +kernel
theorem dX8_prepare_58 : decode cX8_prepare 58 = .ok (.lload 5, 2) := by decide +kernel
theorem dX8_prepare_60 : decode cX8_prepare 60 = .ok (.invokevirtual 61, 3) := by decide +kernel
theorem dX8_prepare_63 : decode cX8_prepare 63 = .ok (.ifCond .eq 41, 3) := by decide +kernel
theorem dX8_prepare_66 : decode cX8_prepare 66 = .ok (.aload_n 0, 1) := by decide +kernel
theorem dX8_prepare_67 : decode cX8_prepare 67 = .ok (.getfield 21, 3) := by decide +kernel
theorem dX8_prepare_70 : decode cX8_prepare 70 = .ok (.iconst 0, 1) := by decide +kernel
theorem dX8_prepare_71 : decode cX8_prepare 71 = .ok (.aaload, 1) := by decide +kernel
theorem dX8_prepare_72 : decode cX8_prepare 72 = .ok (.aload_n 0, 1) := by decide +kernel
theorem dX8_prepare_73 : decode cX8_prepare 73 = .ok (.getfield 58, 3) := by decide +kernel
theorem dX8_prepare_76 : decode cX8_prepare 76 = .ok (.lload 5, 2) := by decide +kernel
theorem dX8_prepare_78 : decode cX8_prepare 78 = .ok (.lastore, 1) := by decide +kernel
theorem dX8_prepare_79 : decode cX8_prepare 79 = .ok (.aload_n 0, 1) := by decide +kernel
theorem dX8_prepare_80 : decode cX8_prepare 80 = .ok (.getfield 15, 3) := by decide +kernel
theorem dX8_prepare_83 : decode cX8_prepare 83 = .ok (.aload_n 0, 1) := by decide +kernel
theorem dX8_prepare_84 : decode cX8_prepare 84 = .ok (.getfield 58, 3) := by decide +kernel
theorem dX8_prepare_87 : decode cX8_prepare 87 = .ok (.aload_n 1, 1) := by decide +kernel
theorem dX8_prepare_88 : decode cX8_prepare 88 = .ok (.lload 5, 2) := by decide +kernel
theorem dX8_prepare_90 : decode cX8_prepare 90 = .ok (.invokevirtual 67, 3) := by decide +kernel
theorem dX8_prepare_93 : decode cX8_prepare 93 = .ok (.lastore, 1) := by decide +kernel
theorem dX8_prepare_94 : decode cX8_prepare 94 = .ok (.aload_n 0, 1) := by decide +kernel
theorem dX8_prepare_95 : decode cX8_prepare 95 = .ok (.dup, 1) := by decide +kernel
theorem dX8_prepare_96 : decode cX8_prepare 96 = .ok (.getfield 58, 3) := by decide +kernel
theorem dX8_prepare_99 : decode cX8_prepare 99 = .ok (.iconst 1, 1) := by decide +kernel
theorem dX8_prepare_100 : decode cX8_prepare 100 = .ok (.iadd, 1) := by decide +kernel
theorem dX8_prepare_101 : decode cX8_prepare 101 = .ok (.putfield 58, 3) := by decide +kernel
theorem dX8_prepare_104 : decode cX8_prepare 104 = .ok (.iinc 4 1, 3) := by decide +kernel
theorem dX8_prepare_107 : decode cX8_prepare 107 = .ok (.goto (-75), 3) := by decide +kernel
theorem dX8_prepare_110 : decode cX8_prepare 110 = .ok (.aload_n 0, 1) := by decide +kernel
theorem dX8_prepare_111 : decode cX8_prepare 111 = .ok (.getfield 24, 3) := by decide +kernel
theorem dX8_prepare_114 : decode cX8_prepare 114 = .ok (.iconst 0, 1) := by decide +kernel
theorem dX8_prepare_115 : decode cX8_prepare 115 = .ok (.aload_n 0, 1) := by decide +kernel
theorem dX8_prepare_116 : decode cX8_prepare 116 = .ok (.getfield 58, 3) := by decide +kernel
theorem dX8_prepare_119 : decode cX8_prepare 119 = .ok (.iastore, 1) := by decide +kernel
theorem dX8_prepare_120 : decode cX8_prepare 120 = .ok (.aload_n 0, 1) := by decide +kernel
theorem dX8_prepare_121 : decode cX8_prepare 121 = .ok (.aload_n 2, 1) := by decide +kernel
theorem dX8_prepare_122 : decode cX8_prepare 122 = .ok (.invokevirtual 71, 3) := by decide +kernel
theorem dX8_prepare_125 : decode cX8_prepare 125 = .ok (.return_, 1) := by decide +kernel
theorem dX8_listChoices_0 : decode cX8_listChoices 0 = .ok (.aload_n 0, 1) := by decide +kernel
theorem dX8_listChoices_1 : decode cX8_listChoices 1 = .ok (.iconst 0, 1) := by decide +kernel
theorem dX8_listChoices_2 : decode cX8_listChoices 2 = .ok (.putfield 75, 3) := by decide +kernel
theorem dX8_listChoices_5 : decode cX8_listChoices 5 = .ok (.iconst 0, 1) := by decide +kernel
theorem dX8_listChoices_6 : decode cX8_listChoices 6 = .ok (.istore_n 2, 1) := by decide +kernel
theorem dX8_listChoices_7 : decode cX8_listChoices 7 = .ok (.iload_n 2, 1) := by decide +kernel
theorem dX8_listChoices_8 : decode cX8_listChoices 8 = .ok (.bipush 13, 2) := by decide +kernel
theorem dX8_listChoices_10 : decode cX8_listChoices 10 = .ok (.if_icmp .ge 71, 3) := by decide +kernel
theorem dX8_listChoices_13 : decode cX8_listChoices 13 = .ok (.iconst 0, 1) := by decide +kernel
theorem dX8_listChoices_14 : decode cX8_listChoices 14 = .ok (.istore_n 3, 1) := by decide +kernel
theorem dX8_listChoices_15 : decode cX8_listChoices 15 = .ok (.iload_n 3, 1) := by decide +kernel
theorem dX8_listChoices_16 : decode cX8_listChoices 16 = .ok (.iconst 3, 1) := by decide +kernel
theorem dX8_listChoices_17 : decode cX8_listChoices 17 = .ok (.if_icmp .ge 58, 3) := by decide +kernel
theorem dX8_listChoices_20 : decode cX8_listChoices 20 = .ok (.iload_n 2, 1) := by decide +kernel
theorem dX8_listChoices_21 : decode cX8_listChoices 21 = .ok (.invokestatic 78, 3) := by decide +kernel
theorem dX8_listChoices_24 : decode cX8_listChoices 24 = .ok (.ifCond .eq 38, 3) := by decide +kernel
theorem dX8_listChoices_27 : decode cX8_listChoices 27 = .ok (.iconst 0, 1) := by decide +kernel
theorem dX8_listChoices_28 : decode cX8_listChoices 28 = .ok (.istore 4, 2) := by decide +kernel
theorem dX8_listChoices_30 : decode cX8_listChoices 30 = .ok (.iload 4, 2) := by decide +kernel
theorem dX8_listChoices_32 : decode cX8_listChoices 32 = .ok (.iconst 3, 1) := by decide +kernel
theorem dX8_listChoices_33 : decode cX8_listChoices 33 = .ok (.if_icmp .ge 26, 3) := by decide +kernel
theorem dX8_listChoices_36 : decode cX8_listChoices 36 = .ok (.aload_n 0, 1) := by decide +kernel
theorem dX8_listChoices_37 : decode cX8_listChoices 37 = .ok (.iload_n 2, 1) := by decide +kernel
theorem dX8_listChoices_38 : decode cX8_listChoices 38 = .ok (.iload_n 3, 1) := by decide +kernel
theorem dX8_listChoices_39 : decode cX8_listChoices 39 = .ok (.iload 4, 2) := by decide +kernel
theorem dX8_listChoices_41 : decode cX8_listChoices 41 = .ok (.i2l, 1) := by decide +kernel
theorem dX8_listChoices_42 : decode cX8_listChoices 42 = .ok (.iconst 1, 1) := by decide +kernel
theorem dX8_listChoices_43 : decode cX8_listChoices 43 = .ok (.iload_n 3, 1) := by decide +kernel
theorem dX8_listChoices_44 : decode cX8_listChoices 44 = .ok (.ishl, 1) := by decide +kernel
theorem dX8_listChoices_45 : decode cX8_listChoices 45 = .ok (.iconst 1, 1) := by decide +kernel
theorem dX8_listChoices_46 : decode cX8_listChoices 46 = .ok (.iload 4, 2) := by decide +kernel
theorem dX8_listChoices_48 : decode cX8_listChoices 48 = .ok (.ishl, 1) := by decide +kernel
theorem dX8_listChoices_49 : decode cX8_listChoices 49 = .ok (.ior, 1) := by decide +kernel
theorem dX8_listChoices_50 : decode cX8_listChoices 50 = .ok (.invokevirtual 84, 3) := by decide +kernel
theorem dX8_listChoices_53 : decode cX8_listChoices 53 = .ok (.iinc 4 1, 3) := by decide +kernel
theorem dX8_listChoices_56 : decode cX8_listChoices 56 = .ok (.goto (-26), 3) := by decide +kernel
theorem dX8_listChoices_59 : decode cX8_listChoices 59 = .ok (.goto 10, 3) := by decide +kernel
theorem dX8_listChoices_62 : decode cX8_listChoices 62 = .ok (.aload_n 0, 1) := by decide +kernel
theorem dX8_listChoices_63 : decode cX8_listChoices 63 = .ok (.iload_n 2, 1) := by decide +kernel
theorem dX8_listChoices_64 : decode cX8_listChoices 64 = .ok (.iload_n 3, 1) := by decide +kernel
theorem dX8_listChoices_65 : decode cX8_listChoices 65 = .ok (.aload_n 1, 1) := by decide +kernel
theorem dX8_listChoices_66 : decode cX8_listChoices 66 = .ok (.invokevirtual 88, 3) := by decide +kernel
theorem dX8_listChoices_69 : decode cX8_listChoices 69 = .ok (.iinc 3 1, 3) := by decide +kernel
theorem dX8_listChoices_72 : decode cX8_listChoices 72 = .ok (.goto (-57), 3) := by decide +kernel
theorem dX8_listChoices_75 : decode cX8_listChoices 75 = .ok (.iinc 2 1, 3) := by decide +kernel
theorem dX8_listChoices_78 : decode cX8_listChoices 78 = .ok (.goto (-71), 3) := by decide +kernel
theorem dX8_listChoices_81 : decode cX8_listChoices 81 = .ok (.return_, 1) := by decide +kernel
theorem dX8_listTold_0 : decode cX8_listTold 0 = .ok (.iconst 0, 1) := by decide +kernel
theorem dX8_listTold_1 : decode cX8_listTold 1 = .ok (.istore 4, 2) := by decide +kernel
theorem dX8_listTold_3 : decode cX8_listTold 3 = .ok (.iload 4, 2) := by decide +kernel
theorem dX8_listTold_5 : decode cX8_listTold 5 = .ok (.iconst 4, 1) := by decide +kernel
theorem dX8_listTold_6 : decode cX8_listTold 6 = .ok (.if_icmp .ge 71, 3) := by decide +kernel
theorem dX8_listTold_9 : decode cX8_listTold 9 = .ok (.aload_n 3, 1) := by decide +kernel
theorem dX8_listTold_10 : decode cX8_listTold 10 = .ok (.iload 4, 2) := by decide +kernel
theorem dX8_listTold_12 : decode cX8_listTold 12 = .ok (.laload, 1) := by decide +kernel
theorem dX8_listTold_13 : decode cX8_listTold 13 = .ok (.bipush 8, 2) := by decide +kernel
theorem dX8_listTold_15 : decode cX8_listTold 15 = .ok (.invokestatic 92, 3) := by decide +kernel
theorem dX8_listTold_18 : decode cX8_listTold 18 = .ok (.land, 1) := by decide +kernel
theorem dX8_listTold_19 : decode cX8_listTold 19 = .ok (.lstore 5, 2) := by decide +kernel
theorem dX8_listTold_21 : decode cX8_listTold 21 = .ok (.iload_n 1, 1) := by decide +kernel
theorem dX8_listTold_22 : decode cX8_listTold 22 = .ok (.invokestatic 98, 3) := by decide +kernel
theorem dX8_listTold_25 : decode cX8_listTold 25 = .ok (.ifCond .eq 12, 3) := by decide +kernel
theorem dX8_listTold_28 : decode cX8_listTold 28 = .ok (.lload 5, 2) := by decide +kernel
theorem dX8_listTold_30 : decode cX8_listTold 30 = .ok (.ldc2_w 101, 3) := by decide +kernel
theorem dX8_listTold_33 : decode cX8_listTold 33 = .ok (.lcmp, 1) := by decide +kernel
theorem dX8_listTold_34 : decode cX8_listTold 34 = .ok (.ifCond .ge 7, 3) := by decide +kernel
theorem dX8_listTold_37 : decode cX8_listTold 37 = .ok (.iconst 1, 1) := by decide +kernel
theorem dX8_listTold_38 : decode cX8_listTold 38 = .ok (.goto 4, 3) := by decide +kernel
theorem dX8_listTold_41 : decode cX8_listTold 41 = .ok (.iconst 0, 1) := by decide +kernel
theorem dX8_listTold_42 : decode cX8_listTold 42 = .ok (.istore 7, 2) := by decide +kernel
theorem dX8_listTold_44 : decode cX8_listTold 44 = .ok (.iload 7, 2) := by decide +kernel
theorem dX8_listTold_46 : decode cX8_listTold 46 = .ok (.ifCond .eq 25, 3) := by decide +kernel
theorem dX8_listTold_49 : decode cX8_listTold 49 = .ok (.aload_n 3, 1) := by decide +kernel
theorem dX8_listTold_50 : decode cX8_listTold 50 = .ok (.iload 4, 2) := by decide +kernel
theorem dX8_listTold_52 : decode cX8_listTold 52 = .ok (.lload 5, 2) := by decide +kernel
theorem dX8_listTold_54 : decode cX8_listTold 54 = .ok (.invokestatic 103, 3) := by decide +kernel
theorem dX8_listTold_57 : decode cX8_listTold 57 = .ok (.ifCond .ne 14, 3) := by decide +kernel
theorem dX8_listTold_60 : decode cX8_listTold 60 = .ok (.aload_n 0, 1) := by decide +kernel
theorem dX8_listTold_61 : decode cX8_listTold 61 = .ok (.iload_n 1, 1) := by decide +kernel
theorem dX8_listTold_62 : decode cX8_listTold 62 = .ok (.iload_n 2, 1) := by decide +kernel
theorem dX8_listTold_63 : decode cX8_listTold 63 = .ok (.lload 5, 2) := by decide +kernel
theorem dX8_listTold_65 : decode cX8_listTold 65 = .ok (.iconst 1, 1) := by decide +kernel
theorem dX8_listTold_66 : decode cX8_listTold 66 = .ok (.iload_n 2, 1) := by decide +kernel
theorem dX8_listTold_67 : decode cX8_listTold 67 = .ok (.ishl, 1) := by decide +kernel
theorem dX8_listTold_68 : decode cX8_listTold 68 = .ok (.invokevirtual 84, 3) := by decide +kernel
theorem dX8_listTold_71 : decode cX8_listTold 71 = .ok (.iinc 4 1, 3) := by decide +kernel
theorem dX8_listTold_74 : decode cX8_listTold 74 = .ok (.goto (-71), 3) := by decide +kernel
theorem dX8_listTold_77 : decode cX8_listTold 77 = .ok (.return_, 1) := by decide +kernel
theorem dX8_stoodBefore_0 : decode cX8_stoodBefore 0 = .ok (.iconst 0, 1) := by decide +kernel
theorem dX8_stoodBefore_1 : decode cX8_stoodBefore 1 = .ok (.istore 4, 2) := by decide +kernel
theorem dX8_stoodBefore_3 : decode cX8_stoodBefore 3 = .ok (.iload 4, 2) := by decide +kernel
theorem dX8_stoodBefore_5 : decode cX8_stoodBefore 5 = .ok (.iload_n 1, 1) := by decide +kernel
theorem dX8_stoodBefore_6 : decode cX8_stoodBefore 6 = .ok (.if_icmp .ge 26, 3) := by decide +kernel
theorem dX8_stoodBefore_9 : decode cX8_stoodBefore 9 = .ok (.aload_n 0, 1) := by decide +kernel
theorem dX8_stoodBefore_10 : decode cX8_stoodBefore 10 = .ok (.iload 4, 2) := by decide +kernel
theorem dX8_stoodBefore_12 : decode cX8_stoodBefore 12 = .ok (.laload, 1) := by decide +kernel
theorem dX8_stoodBefore_13 : decode cX8_stoodBefore 13 = .ok (.bipush 8, 2) := by decide +kernel
theorem dX8_stoodBefore_15 : decode cX8_stoodBefore 15 = .ok (.invokestatic 92, 3) := by decide +kernel
theorem dX8_stoodBefore_18 : decode cX8_stoodBefore 18 = .ok (.land, 1) := by decide +kernel
theorem dX8_stoodBefore_19 : decode cX8_stoodBefore 19 = .ok (.lload_n 2, 1) := by decide +kernel
theorem dX8_stoodBefore_20 : decode cX8_stoodBefore 20 = .ok (.lcmp, 1) := by decide +kernel
theorem dX8_stoodBefore_21 : decode cX8_stoodBefore 21 = .ok (.ifCond .ne 5, 3) := by decide +kernel
theorem dX8_stoodBefore_24 : decode cX8_stoodBefore 24 = .ok (.iconst 1, 1) := by decide +kernel
theorem dX8_stoodBefore_25 : decode cX8_stoodBefore 25 = .ok (.ireturn, 1) := by decide +kernel
theorem dX8_stoodBefore_26 : decode cX8_stoodBefore 26 = .ok (.iinc 4 1, 3) := by decide +kernel
theorem dX8_stoodBefore_29 : decode cX8_stoodBefore 29 = .ok (.goto (-26), 3) := by decide +kernel
theorem dX8_stoodBefore_32 : decode cX8_stoodBefore 32 = .ok (.iconst 0, 1) := by decide +kernel
theorem dX8_stoodBefore_33 : decode cX8_stoodBefore 33 = .ok (.ireturn, 1) := by decide +kernel
theorem dX8_addChoice_0 : decode cX8_addChoice 0 = .ok (.aload_n 0, 1) := by decide +kernel
theorem dX8_addChoice_1 : decode cX8_addChoice 1 = .ok (.getfield 75, 3) := by decide +kernel
theorem dX8_addChoice_4 : decode cX8_addChoice 4 = .ok (.sipush 144, 3) := by decide +kernel
theorem dX8_addChoice_7 : decode cX8_addChoice 7 = .ok (.if_icmp .ge 54, 3) := by decide +kernel
theorem dX8_addChoice_10 : decode cX8_addChoice 10 = .ok (.aload_n 0, 1) := by decide +kernel
theorem dX8_addChoice_11 : decode cX8_addChoice 11 = .ok (.getfield 27, 3) := by decide +kernel
theorem dX8_addChoice_14 : decode cX8_addChoice 14 = .ok (.aload_n 0, 1) := by decide +kernel
theorem dX8_addChoice_15 : decode cX8_addChoice 15 = .ok (.getfield 75, 3) := by decide +kernel
theorem dX8_addChoice_18 : decode cX8_addChoice 18 = .ok (.iload_n 1, 1) := by decide +kernel
theorem dX8_addChoice_19 : decode cX8_addChoice 19 = .ok (.iastore, 1) := by decide +kernel
theorem dX8_addChoice_20 : decode cX8_addChoice 20 = .ok (.aload_n 0, 1) := by decide +kernel
theorem dX8_addChoice_21 : decode cX8_addChoice 21 = .ok (.getfield 30, 3) := by decide +kernel
theorem dX8_addChoice_24 : decode cX8_addChoice 24 = .ok (.aload_n 0, 1) := by decide +kernel
theorem dX8_addChoice_25 : decode cX8_addChoice 25 = .ok (.getfield 75, 3) := by decide +kernel
theorem dX8_addChoice_28 : decode cX8_addChoice 28 = .ok (.iload_n 2, 1) := by decide +kernel
theorem dX8_addChoice_29 : decode cX8_addChoice 29 = .ok (.iastore, 1) := by decide +kernel
theorem dX8_addChoice_30 : decode cX8_addChoice 30 = .ok (.aload_n 0, 1) := by decide +kernel
theorem dX8_addChoice_31 : decode cX8_addChoice 31 = .ok (.getfield 33, 3) := by decide +kernel
theorem dX8_addChoice_34 : decode cX8_addChoice 34 = .ok (.aload_n 0, 1) := by decide +kernel
theorem dX8_addChoice_35 : decode cX8_addChoice 35 = .ok (.getfield 75, 3) := by decide +kernel
theorem dX8_addChoice_38 : decode cX8_addChoice 38 = .ok (.lload_n 3, 1) := by decide +kernel
theorem dX8_addChoice_39 : decode cX8_addChoice 39 = .ok (.lastore, 1) := by decide +kernel
theorem dX8_addChoice_40 : decode cX8_addChoice 40 = .ok (.aload_n 0, 1) := by decide +kernel
theorem dX8_addChoice_41 : decode cX8_addChoice 41 = .ok (.getfield 36, 3) := by decide +kernel
theorem dX8_addChoice_44 : decode cX8_addChoice 44 = .ok (.aload_n 0, 1) := by decide +kernel
theorem dX8_addChoice_45 : decode cX8_addChoice 45 = .ok (.getfield 75, 3) := by decide +kernel
theorem dX8_addChoice_48 : decode cX8_addChoice 48 = .ok (.iload 5, 2) := by decide +kernel
theorem dX8_addChoice_50 : decode cX8_addChoice 50 = .ok (.iastore, 1) := by decide +kernel
theorem dX8_addChoice_51 : decode cX8_addChoice 51 = .ok (.aload_n 0, 1) := by decide +kernel
theorem dX8_addChoice_52 : decode cX8_addChoice 52 = .ok (.dup, 1) := by decide +kernel
theorem dX8_addChoice_53 : decode cX8_addChoice 53 = .ok (.getfield 75, 3) := by decide +kernel
theorem dX8_addChoice_56 : decode cX8_addChoice 56 = .ok (.iconst 1, 1) := by decide +kernel
theorem dX8_addChoice_57 : decode cX8_addChoice 57 = .ok (.iadd, 1) := by decide +kernel
theorem dX8_addChoice_58 : decode cX8_addChoice 58 = .ok (.putfield 75, 3) := by decide +kernel
theorem dX8_addChoice_61 : decode cX8_addChoice 61 = .ok (.return_, 1) := by decide +kernel
theorem dX8_extend_0 : decode cX8_extend 0 = .ok (.iload_n 2, 1) := by decide +kernel
theorem dX8_extend_1 : decode cX8_extend 1 = .ok (.iconst 3, 1) := by decide +kernel
theorem dX8_extend_2 : decode cX8_extend 2 = .ok (.if_icmp .ge 8, 3) := by decide +kernel
theorem dX8_extend_5 : decode cX8_extend 5 = .ok (.iload_n 2, 1) := by decide +kernel
theorem dX8_extend_6 : decode cX8_extend 6 = .ok (.iload_n 1, 1) := by decide +kernel
theorem dX8_extend_7 : decode cX8_extend 7 = .ok (.if_icmp .lt 4, 3) := by decide +kernel
theorem dX8_extend_10 : decode cX8_extend 10 = .ok (.return_, 1) := by decide +kernel
theorem dX8_extend_11 : decode cX8_extend 11 = .ok (.iload_n 1, 1) := by decide +kernel
theorem dX8_extend_12 : decode cX8_extend 12 = .ok (.iload_n 2, 1) := by decide +kernel
theorem dX8_extend_13 : decode cX8_extend 13 = .ok (.isub, 1) := by decide +kernel
theorem dX8_extend_14 : decode cX8_extend 14 = .ok (.iconst 1, 1) := by decide +kernel
theorem dX8_extend_15 : decode cX8_extend 15 = .ok (.isub, 1) := by decide +kernel
theorem dX8_extend_16 : decode cX8_extend 16 = .ok (.istore 5, 2) := by decide +kernel
theorem dX8_extend_18 : decode cX8_extend 18 = .ok (.iconst 0, 1) := by decide +kernel
theorem dX8_extend_19 : decode cX8_extend 19 = .ok (.istore 6, 2) := by decide +kernel
theorem dX8_extend_21 : decode cX8_extend 21 = .ok (.iload 6, 2) := by decide +kernel
theorem dX8_extend_23 : decode cX8_extend 23 = .ok (.aload_n 0, 1) := by decide +kernel
theorem dX8_extend_24 : decode cX8_extend 24 = .ok (.getfield 75, 3) := by decide +kernel
theorem dX8_extend_27 : decode cX8_extend 27 = .ok (.if_icmp .ge 131, 3) := by decide +kernel
theorem dX8_extend_30 : decode cX8_extend 30 = .ok (.iload_n 3, 1) := by decide +kernel
theorem dX8_extend_31 : decode cX8_extend 31 = .ok (.aload_n 0, 1) := by decide +kernel
theorem dX8_extend_32 : decode cX8_extend 32 = .ok (.getfield 9, 3) := by decide +kernel
theorem dX8_extend_35 : decode cX8_extend 35 = .ok (.aload_n 0, 1) := by decide +kernel
theorem dX8_extend_36 : decode cX8_extend 36 = .ok (.getfield 27, 3) := by decide +kernel
theorem dX8_extend_39 : decode cX8_extend 39 = .ok (.iload 6, 2) := by decide +kernel
theorem dX8_extend_41 : decode cX8_extend 41 = .ok (.iaload, 1) := by decide +kernel
theorem dX8_extend_42 : decode cX8_extend 42 = .ok (.iaload, 1) := by decide +kernel
theorem dX8_extend_43 : decode cX8_extend 43 = .ok (.iadd, 1) := by decide +kernel
theorem dX8_extend_44 : decode cX8_extend 44 = .ok (.istore 7, 2) := by decide +kernel
theorem dX8_extend_46 : decode cX8_extend 46 = .ok (.aload_n 0, 1) := by decide +kernel
theorem dX8_extend_47 : decode cX8_extend 47 = .ok (.getfield 36, 3) := by decide +kernel
theorem dX8_extend_50 : decode cX8_extend 50 = .ok (.iload 6, 2) := by decide +kernel
theorem dX8_extend_52 : decode cX8_extend 52 = .ok (.iaload, 1) := by decide +kernel
theorem dX8_extend_53 : decode cX8_extend 53 = .ok (.iload_n 2, 1) := by decide +kernel
theorem dX8_extend_54 : decode cX8_extend 54 = .ok (.iconst 1, 1) := by decide +kernel
theorem dX8_extend_55 : decode cX8_extend 55 = .ok (.iadd, 1) := by decide +kernel
theorem dX8_extend_56 : decode cX8_extend 56 = .ok (.ishr, 1) := by decide +kernel
theorem dX8_extend_57 : decode cX8_extend 57 = .ok (.ifCond .ne 95, 3) := by decide +kernel
theorem dX8_extend_60 : decode cX8_extend 60 = .ok (.iload 7, 2) := by decide +kernel
theorem dX8_extend_62 : decode cX8_extend 62 = .ok (.iload 5, 2) := by decide +kernel
theorem dX8_extend_64 : decode cX8_extend 64 = .ok (.iadd, 1) := by decide +kernel
theorem dX8_extend_65 : decode cX8_extend 65 = .ok (.aload_n 0, 1) := by decide +kernel
theorem dX8_extend_66 : decode cX8_extend 66 = .ok (.getfield 51, 3) := by decide +kernel
theorem dX8_extend_69 : decode cX8_extend 69 = .ok (.if_icmp .lt 6, 3) := by decide +kernel
theorem dX8_extend_72 : decode cX8_extend 72 = .ok (.goto 80, 3) := by decide +kernel
theorem dX8_extend_75 : decode cX8_extend 75 = .ok (.iload 4, 2) := by decide +kernel
theorem dX8_extend_77 : decode cX8_extend 77 = .ok (.aload_n 0, 1) := by decide +kernel
theorem dX8_extend_78 : decode cX8_extend 78 = .ok (.getfield 36, 3) := by decide +kernel
theorem dX8_extend_81 : decode cX8_extend 81 = .ok (.iload 6, 2) := by decide +kernel
theorem dX8_extend_83 : decode cX8_extend 83 = .ok (.iaload, 1) := by decide +kernel
theorem dX8_extend_84 : decode cX8_extend 84 = .ok (.iconst (-1), 1) := by decide +kernel
theorem dX8_extend_85 : decode cX8_extend 85 = .ok (.ixor, 1) := by decide +kernel
theorem dX8_extend_86 : decode cX8_extend 86 = .ok (.iand, 1) := by decide +kernel
theorem dX8_extend_87 : decode cX8_extend 87 = .ok (.istore 8, 2) := by decide +kernel
theorem dX8_extend_89 : decode cX8_extend 89 = .ok (.aload_n 0, 1) := by decide +kernel
theorem dX8_extend_90 : decode cX8_extend 90 = .ok (.getfield 39, 3) := by decide +kernel
theorem dX8_extend_93 : decode cX8_extend 93 = .ok (.iload_n 2, 1) := by decide +kernel
theorem dX8_extend_94 : decode cX8_extend 94 = .ok (.iload 6, 2) := by decide +kernel
theorem dX8_extend_96 : decode cX8_extend 96 = .ok (.iastore, 1) := by decide +kernel
theorem dX8_extend_97 : decode cX8_extend 97 = .ok (.iload 5, 2) := by decide +kernel
theorem dX8_extend_99 : decode cX8_extend 99 = .ok (.ifCond .le 33, 3) := by decide +kernel
theorem dX8_extend_102 : decode cX8_extend 102 = .ok (.aload_n 0, 1) := by decide +kernel
theorem dX8_extend_103 : decode cX8_extend 103 = .ok (.getfield 24, 3) := by decide +kernel
theorem dX8_extend_106 : decode cX8_extend 106 = .ok (.iload_n 2, 1) := by decide +kernel
theorem dX8_extend_107 : decode cX8_extend 107 = .ok (.iconst 1, 1) := by decide +kernel
theorem dX8_extend_108 : decode cX8_extend 108 = .ok (.iadd, 1) := by decide +kernel
theorem dX8_extend_109 : decode cX8_extend 109 = .ok (.iconst 0, 1) := by decide +kernel
theorem dX8_extend_110 : decode cX8_extend 110 = .ok (.iastore, 1) := by decide +kernel
theorem dX8_extend_111 : decode cX8_extend 111 = .ok (.aload_n 0, 1) := by decide +kernel
theorem dX8_extend_112 : decode cX8_extend 112 = .ok (.iload_n 1, 1) := by decide +kernel
theorem dX8_extend_113 : decode cX8_extend 113 = .ok (.iload_n 2, 1) := by decide +kernel
theorem dX8_extend_114 : decode cX8_extend 114 = .ok (.iconst 1, 1) := by decide +kernel
theorem dX8_extend_115 : decode cX8_extend 115 = .ok (.iadd, 1) := by decide +kernel
theorem dX8_extend_116 : decode cX8_extend 116 = .ok (.iload 7, 2) := by decide +kernel
theorem dX8_extend_118 : decode cX8_extend 118 = .ok (.iload 8, 2) := by decide +kernel
theorem dX8_extend_120 : decode cX8_extend 120 = .ok (.iconst 1, 1) := by decide +kernel
theorem dX8_extend_121 : decode cX8_extend 121 = .ok (.iload_n 2, 1) := by decide +kernel
theorem dX8_extend_122 : decode cX8_extend 122 = .ok (.iconst 1, 1) := by decide +kernel
theorem dX8_extend_123 : decode cX8_extend 123 = .ok (.iadd, 1) := by decide +kernel
theorem dX8_extend_124 : decode cX8_extend 124 = .ok (.ishl, 1) := by decide +kernel
theorem dX8_extend_125 : decode cX8_extend 125 = .ok (.ior, 1) := by decide +kernel
theorem dX8_extend_126 : decode cX8_extend 126 = .ok (.invokevirtual 107, 3) := by decide +kernel
theorem dX8_extend_129 : decode cX8_extend 129 = .ok (.goto 23, 3) := by decide +kernel
theorem dX8_extend_132 : decode cX8_extend 132 = .ok (.iload 8, 2) := by decide +kernel
theorem dX8_extend_134 : decode cX8_extend 134 = .ok (.ifCond .ne 18, 3) := by decide +kernel
theorem dX8_extend_137 : decode cX8_extend 137 = .ok (.aload_n 0, 1) := by decide +kernel
theorem dX8_extend_138 : decode cX8_extend 138 = .ok (.iload_n 2, 1) := by decide +kernel
theorem dX8_extend_139 : decode cX8_extend 139 = .ok (.invokevirtual 111, 3) := by decide +kernel
theorem dX8_extend_142 : decode cX8_extend 142 = .ok (.ifCond .eq 10, 3) := by decide +kernel
theorem dX8_extend_145 : decode cX8_extend 145 = .ok (.aload_n 0, 1) := by decide +kernel
theorem dX8_extend_146 : decode cX8_extend 146 = .ok (.iload_n 1, 1) := by decide +kernel
theorem dX8_extend_147 : decode cX8_extend 147 = .ok (.iload 7, 2) := by decide +kernel
theorem dX8_extend_149 : decode cX8_extend 149 = .ok (.invokevirtual 114, 3) := by decide +kernel
theorem dX8_extend_152 : decode cX8_extend 152 = .ok (.iinc 6 1, 3) := by decide +kernel
theorem dX8_extend_155 : decode cX8_extend 155 = .ok (.goto (-134), 3) := by decide +kernel
theorem dX8_extend_158 : decode cX8_extend 158 = .ok (.return_, 1) := by decide +kernel
theorem dX8_isRight_0 : decode cX8_isRight 0 = .ok (.iconst 0, 1) := by decide +kernel
theorem dX8_isRight_1 : decode cX8_isRight 1 = .ok (.istore_n 2, 1) := by decide +kernel
theorem dX8_isRight_2 : decode cX8_isRight 2 = .ok (.iload_n 2, 1) := by decide +kernel
theorem dX8_isRight_3 : decode cX8_isRight 3 = .ok (.aload_n 0, 1) := by decide +kernel
theorem dX8_isRight_4 : decode cX8_isRight 4 = .ok (.getfield 58, 3) := by decide +kernel
theorem dX8_isRight_7 : decode cX8_isRight 7 = .ok (.if_icmp .ge 48, 3) := by decide +kernel
theorem dX8_isRight_10 : decode cX8_isRight 10 = .ok (.aload_n 0, 1) := by decide +kernel
theorem dX8_isRight_11 : decode cX8_isRight 11 = .ok (.getfield 24, 3) := by decide +kernel
theorem dX8_isRight_14 : decode cX8_isRight 14 = .ok (.iload_n 1, 1) := by decide +kernel
theorem dX8_isRight_15 : decode cX8_isRight 15 = .ok (.iaload, 1) := by decide +kernel
theorem dX8_isRight_16 : decode cX8_isRight 16 = .ok (.iload_n 2, 1) := by decide +kernel
theorem dX8_isRight_17 : decode cX8_isRight 17 = .ok (.if_icmp .gt 9, 3) := by decide +kernel
theorem dX8_isRight_20 : decode cX8_isRight 20 = .ok (.aload_n 0, 1) := by decide +kernel
theorem dX8_isRight_21 : decode cX8_isRight 21 = .ok (.iload_n 1, 1) := by decide +kernel
theorem dX8_isRight_22 : decode cX8_isRight 22 = .ok (.iload_n 2, 1) := by decide +kernel
theorem dX8_isRight_23 : decode cX8_isRight 23 = .ok (.invokevirtual 118, 3) := by decide +kernel
theorem dX8_isRight_26 : decode cX8_isRight 26 = .ok (.aload_n 0, 1) := by decide +kernel
theorem dX8_isRight_27 : decode cX8_isRight 27 = .ok (.aload_n 0, 1) := by decide +kernel
theorem dX8_isRight_28 : decode cX8_isRight 28 = .ok (.getfield 39, 3) := by decide +kernel
theorem dX8_isRight_31 : decode cX8_isRight 31 = .ok (.iload_n 1, 1) := by decide +kernel
theorem dX8_isRight_32 : decode cX8_isRight 32 = .ok (.iaload, 1) := by decide +kernel
theorem dX8_isRight_33 : decode cX8_isRight 33 = .ok (.iload_n 2, 1) := by decide +kernel
theorem dX8_isRight_34 : decode cX8_isRight 34 = .ok (.invokevirtual 121, 3) := by decide +kernel
theorem dX8_isRight_37 : decode cX8_isRight 37 = .ok (.aload_n 0, 1) := by decide +kernel
theorem dX8_isRight_38 : decode cX8_isRight 38 = .ok (.getfield 15, 3) := by decide +kernel
theorem dX8_isRight_41 : decode cX8_isRight 41 = .ok (.iload_n 2, 1) := by decide +kernel
theorem dX8_isRight_42 : decode cX8_isRight 42 = .ok (.laload, 1) := by decide +kernel
theorem dX8_isRight_43 : decode cX8_isRight 43 = .ok (.lcmp, 1) := by decide +kernel
theorem dX8_isRight_44 : decode cX8_isRight 44 = .ok (.ifCond .eq 5, 3) := by decide +kernel
theorem dX8_isRight_47 : decode cX8_isRight 47 = .ok (.iconst 0, 1) := by decide +kernel
theorem dX8_isRight_48 : decode cX8_isRight 48 = .ok (.ireturn, 1) := by decide +kernel
theorem dX8_isRight_49 : decode cX8_isRight 49 = .ok (.iinc 2 1, 3) := by decide +kernel
theorem dX8_isRight_52 : decode cX8_isRight 52 = .ok (.goto (-50), 3) := by decide +kernel
theorem dX8_isRight_55 : decode cX8_isRight 55 = .ok (.iconst 1, 1) := by decide +kernel
theorem dX8_isRight_56 : decode cX8_isRight 56 = .ok (.ireturn, 1) := by decide +kernel
theorem dX8_fillUpTo_0 : decode cX8_fillUpTo 0 = .ok (.iconst 1, 1) := by decide +kernel
theorem dX8_fillUpTo_1 : decode cX8_fillUpTo 1 = .ok (.istore_n 3, 1) := by decide +kernel
theorem dX8_fillUpTo_2 : decode cX8_fillUpTo 2 = .ok (.iload_n 3, 1) := by decide +kernel
theorem dX8_fillUpTo_3 : decode cX8_fillUpTo 3 = .ok (.iload_n 1, 1) := by decide +kernel
theorem dX8_fillUpTo_4 : decode cX8_fillUpTo 4 = .ok (.if_icmp .gt 62, 3) := by decide +kernel
theorem dX8_fillUpTo_7 : decode cX8_fillUpTo 7 = .ok (.aload_n 0, 1) := by decide +kernel
theorem dX8_fillUpTo_8 : decode cX8_fillUpTo 8 = .ok (.getfield 24, 3) := by decide +kernel
theorem dX8_fillUpTo_11 : decode cX8_fillUpTo 11 = .ok (.iload_n 3, 1) := by decide +kernel
theorem dX8_fillUpTo_12 : decode cX8_fillUpTo 12 = .ok (.iaload, 1) := by decide +kernel
theorem dX8_fillUpTo_13 : decode cX8_fillUpTo 13 = .ok (.istore 4, 2) := by decide +kernel
theorem dX8_fillUpTo_15 : decode cX8_fillUpTo 15 = .ok (.iload 4, 2) := by decide +kernel
theorem dX8_fillUpTo_17 : decode cX8_fillUpTo 17 = .ok (.iload_n 2, 1) := by decide +kernel
theorem dX8_fillUpTo_18 : decode cX8_fillUpTo 18 = .ok (.if_icmp .gt 42, 3) := by decide +kernel
theorem dX8_fillUpTo_21 : decode cX8_fillUpTo 21 = .ok (.aload_n 0, 1) := by decide +kernel
theorem dX8_fillUpTo_22 : decode cX8_fillUpTo 22 = .ok (.getfield 21, 3) := by decide +kernel
theorem dX8_fillUpTo_25 : decode cX8_fillUpTo 25 = .ok (.iload_n 3, 1) := by decide +kernel
theorem dX8_fillUpTo_26 : decode cX8_fillUpTo 26 = .ok (.aaload, 1) := by decide +kernel
theorem dX8_fillUpTo_27 : decode cX8_fillUpTo 27 = .ok (.iload 4, 2) := by decide +kernel
theorem dX8_fillUpTo_29 : decode cX8_fillUpTo 29 = .ok (.aload_n 0, 1) := by decide +kernel
theorem dX8_fillUpTo_30 : decode cX8_fillUpTo 30 = .ok (.aload_n 0, 1) := by decide +kernel
theorem dX8_fillUpTo_31 : decode cX8_fillUpTo 31 = .ok (.getfield 39, 3) := by decide +kernel
theorem dX8_fillUpTo_34 : decode cX8_fillUpTo 34 = .ok (.iload_n 3, 1) := by decide +kernel
theorem dX8_fillUpTo_35 : decode cX8_fillUpTo 35 = .ok (.iconst 1, 1) := by decide +kernel
theorem dX8_fillUpTo_36 : decode cX8_fillUpTo 36 = .ok (.isub, 1) := by decide +kernel
theorem dX8_fillUpTo_37 : decode cX8_fillUpTo 37 = .ok (.iaload, 1) := by decide +kernel
theorem dX8_fillUpTo_38 : decode cX8_fillUpTo 38 = .ok (.iload 4, 2) := by decide +kernel
theorem dX8_fillUpTo_40 : decode cX8_fillUpTo 40 = .ok (.invokevirtual 121, 3) := by decide +kernel
theorem dX8_fillUpTo_43 : decode cX8_fillUpTo 43 = .ok (.lastore, 1) := by decide +kernel
theorem dX8_fillUpTo_44 : decode cX8_fillUpTo 44 = .ok (.aload_n 0, 1) := by decide +kernel
theorem dX8_fillUpTo_45 : decode cX8_fillUpTo 45 = .ok (.getfield 24, 3) := by decide +kernel
theorem dX8_fillUpTo_48 : decode cX8_fillUpTo 48 = .ok (.iload_n 3, 1) := by decide +kernel
theorem dX8_fillUpTo_49 : decode cX8_fillUpTo 49 = .ok (.iload 4, 2) := by decide +kernel
theorem dX8_fillUpTo_51 : decode cX8_fillUpTo 51 = .ok (.iconst 1, 1) := by decide +kernel
theorem dX8_fillUpTo_52 : decode cX8_fillUpTo 52 = .ok (.iadd, 1) := by decide +kernel
theorem dX8_fillUpTo_53 : decode cX8_fillUpTo 53 = .ok (.iastore, 1) := by decide +kernel
theorem dX8_fillUpTo_54 : decode cX8_fillUpTo 54 = .ok (.iinc 4 1, 3) := by decide +kernel
theorem dX8_fillUpTo_57 : decode cX8_fillUpTo 57 = .ok (.goto (-42), 3) := by decide +kernel
theorem dX8_fillUpTo_60 : decode cX8_fillUpTo 60 = .ok (.iinc 3 1, 3) := by decide +kernel
theorem dX8_fillUpTo_63 : decode cX8_fillUpTo 63 = .ok (.goto (-61), 3) := by decide +kernel
theorem dX8_fillUpTo_66 : decode cX8_fillUpTo 66 = .ok (.return_, 1) := by decide +kernel
theorem dX8_valueOf_0 : decode cX8_valueOf 0 = .ok (.aload_n 0, 1) := by decide +kernel
theorem dX8_valueOf_1 : decode cX8_valueOf 1 = .ok (.getfield 27, 3) := by decide +kernel
theorem dX8_valueOf_4 : decode cX8_valueOf 4 = .ok (.iload_n 1, 1) := by decide +kernel
theorem dX8_valueOf_5 : decode cX8_valueOf 5 = .ok (.iaload, 1) := by decide +kernel
theorem dX8_valueOf_6 : decode cX8_valueOf 6 = .ok (.istore_n 3, 1) := by decide +kernel
theorem dX8_valueOf_7 : decode cX8_valueOf 7 = .ok (.aload_n 0, 1) := by decide +kernel
theorem dX8_valueOf_8 : decode cX8_valueOf 8 = .ok (.getfield 33, 3) := by decide +kernel
theorem dX8_valueOf_11 : decode cX8_valueOf 11 = .ok (.iload_n 1, 1) := by decide +kernel
theorem dX8_valueOf_12 : decode cX8_valueOf 12 = .ok (.laload, 1) := by decide +kernel
theorem dX8_valueOf_13 : decode cX8_valueOf 13 = .ok (.lstore 4, 2) := by decide +kernel
theorem dX8_valueOf_15 : decode cX8_valueOf 15 = .ok (.iload_n 3, 1) := by decide +kernel
theorem dX8_valueOf_16 : decode cX8_valueOf 16 = .ok (.invokestatic 78, 3) := by decide +kernel
theorem dX8_valueOf_19 : decode cX8_valueOf 19 = .ok (.ifCond .eq 15, 3) := by decide +kernel
theorem dX8_valueOf_22 : decode cX8_valueOf 22 = .ok (.aload_n 0, 1) := by decide +kernel
theorem dX8_valueOf_23 : decode cX8_valueOf 23 = .ok (.getfield 21, 3) := by decide +kernel
theorem dX8_valueOf_26 : decode cX8_valueOf 26 = .ok (.lload 4, 2) := by decide +kernel
theorem dX8_valueOf_28 : decode cX8_valueOf 28 = .ok (.l2i, 1) := by decide +kernel
theorem dX8_valueOf_29 : decode cX8_valueOf 29 = .ok (.aaload, 1) := by decide +kernel
theorem dX8_valueOf_30 : decode cX8_valueOf 30 = .ok (.iload_n 2, 1) := by decide +kernel
theorem dX8_valueOf_31 : decode cX8_valueOf 31 = .ok (.laload, 1) := by decide +kernel
theorem dX8_valueOf_32 : decode cX8_valueOf 32 = .ok (.lstore 4, 2) := by decide +kernel
theorem dX8_valueOf_34 : decode cX8_valueOf 34 = .ok (.bipush 8, 2) := by decide +kernel
theorem dX8_valueOf_36 : decode cX8_valueOf 36 = .ok (.iload_n 3, 1) := by decide +kernel
theorem dX8_valueOf_37 : decode cX8_valueOf 37 = .ok (.aload_n 0, 1) := by decide +kernel
theorem dX8_valueOf_38 : decode cX8_valueOf 38 = .ok (.getfield 21, 3) := by decide +kernel
theorem dX8_valueOf_41 : decode cX8_valueOf 41 = .ok (.aload_n 0, 1) := by decide +kernel
theorem dX8_valueOf_42 : decode cX8_valueOf 42 = .ok (.getfield 30, 3) := by decide +kernel
theorem dX8_valueOf_45 : decode cX8_valueOf 45 = .ok (.iload_n 1, 1) := by decide +kernel
theorem dX8_valueOf_46 : decode cX8_valueOf 46 = .ok (.iaload, 1) := by decide +kernel
theorem dX8_valueOf_47 : decode cX8_valueOf 47 = .ok (.aaload, 1) := by decide +kernel
theorem dX8_valueOf_48 : decode cX8_valueOf 48 = .ok (.iload_n 2, 1) := by decide +kernel
theorem dX8_valueOf_49 : decode cX8_valueOf 49 = .ok (.laload, 1) := by decide +kernel
theorem dX8_valueOf_50 : decode cX8_valueOf 50 = .ok (.lload 4, 2) := by decide +kernel
theorem dX8_valueOf_52 : decode cX8_valueOf 52 = .ok (.invokestatic 125, 3) := by decide +kernel
theorem dX8_valueOf_55 : decode cX8_valueOf 55 = .ok (.lreturn, 1) := by decide +kernel
theorem dX8_keep_0 : decode cX8_keep 0 = .ok (.aload_n 0, 1) := by decide +kernel
theorem dX8_keep_1 : decode cX8_keep 1 = .ok (.iload_n 2, 1) := by decide +kernel
theorem dX8_keep_2 : decode cX8_keep 2 = .ok (.putfield 51, 3) := by decide +kernel
theorem dX8_keep_5 : decode cX8_keep 5 = .ok (.aload_n 0, 1) := by decide +kernel
theorem dX8_keep_6 : decode cX8_keep 6 = .ok (.iload_n 1, 1) := by decide +kernel
theorem dX8_keep_7 : decode cX8_keep 7 = .ok (.putfield 55, 3) := by decide +kernel
theorem dX8_keep_10 : decode cX8_keep 10 = .ok (.iconst 0, 1) := by decide +kernel
theorem dX8_keep_11 : decode cX8_keep 11 = .ok (.istore_n 3, 1) := by decide +kernel
theorem dX8_keep_12 : decode cX8_keep 12 = .ok (.iload_n 3, 1) := by decide +kernel
theorem dX8_keep_13 : decode cX8_keep 13 = .ok (.iload_n 1, 1) := by decide +kernel
theorem dX8_keep_14 : decode cX8_keep 14 = .ok (.if_icmp .ge 21, 3) := by decide +kernel
theorem dX8_keep_17 : decode cX8_keep 17 = .ok (.aload_n 0, 1) := by decide +kernel
theorem dX8_keep_18 : decode cX8_keep 18 = .ok (.getfield 42, 3) := by decide +kernel
theorem dX8_keep_21 : decode cX8_keep 21 = .ok (.iload_n 3, 1) := by decide +kernel
theorem dX8_keep_22 : decode cX8_keep 22 = .ok (.aload_n 0, 1) := by decide +kernel
theorem dX8_keep_23 : decode cX8_keep 23 = .ok (.getfield 39, 3) := by decide +kernel
theorem dX8_keep_26 : decode cX8_keep 26 = .ok (.iload_n 3, 1) := by decide +kernel
theorem dX8_keep_27 : decode cX8_keep 27 = .ok (.iaload, 1) := by decide +kernel
theorem dX8_keep_28 : decode cX8_keep 28 = .ok (.iastore, 1) := by decide +kernel
theorem dX8_keep_29 : decode cX8_keep 29 = .ok (.iinc 3 1, 3) := by decide +kernel
theorem dX8_keep_32 : decode cX8_keep 32 = .ok (.goto (-20), 3) := by decide +kernel
theorem dX8_keep_35 : decode cX8_keep 35 = .ok (.return_, 1) := by decide +kernel
theorem dX8_writeBest_0 : decode cX8_writeBest 0 = .ok (.iconst 0, 1) := by decide +kernel
theorem dX8_writeBest_1 : decode cX8_writeBest 1 = .ok (.istore_n 2, 1) := by decide +kernel
theorem dX8_writeBest_2 : decode cX8_writeBest 2 = .ok (.iload_n 2, 1) := by decide +kernel
theorem dX8_writeBest_3 : decode cX8_writeBest 3 = .ok (.aload_n 0, 1) := by decide +kernel
theorem dX8_writeBest_4 : decode cX8_writeBest 4 = .ok (.getfield 55, 3) := by decide +kernel
theorem dX8_writeBest_7 : decode cX8_writeBest 7 = .ok (.if_icmp .ge 39, 3) := by decide +kernel
theorem dX8_writeBest_10 : decode cX8_writeBest 10 = .ok (.aload_n 0, 1) := by decide +kernel
theorem dX8_writeBest_11 : decode cX8_writeBest 11 = .ok (.getfield 42, 3) := by decide +kernel
theorem dX8_writeBest_14 : decode cX8_writeBest 14 = .ok (.iload_n 2, 1) := by decide +kernel
theorem dX8_writeBest_15 : decode cX8_writeBest 15 = .ok (.iaload, 1) := by decide +kernel
theorem dX8_writeBest_16 : decode cX8_writeBest 16 = .ok (.istore_n 3, 1) := by decide +kernel
theorem dX8_writeBest_17 : decode cX8_writeBest 17 = .ok (.aload_n 1, 1) := by decide +kernel
theorem dX8_writeBest_18 : decode cX8_writeBest 18 = .ok (.aload_n 0, 1) := by decide +kernel
theorem dX8_writeBest_19 : decode cX8_writeBest 19 = .ok (.getfield 27, 3) := by decide +kernel
theorem dX8_writeBest_22 : decode cX8_writeBest 22 = .ok (.iload_n 3, 1) := by decide +kernel
theorem dX8_writeBest_23 : decode cX8_writeBest 23 = .ok (.iaload, 1) := by decide +kernel
theorem dX8_writeBest_24 : decode cX8_writeBest 24 = .ok (.aload_n 0, 1) := by decide +kernel
theorem dX8_writeBest_25 : decode cX8_writeBest 25 = .ok (.getfield 30, 3) := by decide +kernel
theorem dX8_writeBest_28 : decode cX8_writeBest 28 = .ok (.iload_n 3, 1) := by decide +kernel
theorem dX8_writeBest_29 : decode cX8_writeBest 29 = .ok (.iaload, 1) := by decide +kernel
theorem dX8_writeBest_30 : decode cX8_writeBest 30 = .ok (.aload_n 0, 1) := by decide +kernel
theorem dX8_writeBest_31 : decode cX8_writeBest 31 = .ok (.getfield 33, 3) := by decide +kernel
theorem dX8_writeBest_34 : decode cX8_writeBest 34 = .ok (.iload_n 3, 1) := by decide +kernel
theorem dX8_writeBest_35 : decode cX8_writeBest 35 = .ok (.laload, 1) := by decide +kernel
theorem dX8_writeBest_36 : decode cX8_writeBest 36 = .ok (.invokevirtual 129, 3) := by decide +kernel
theorem dX8_writeBest_39 : decode cX8_writeBest 39 = .ok (.pop, 1) := by decide +kernel
theorem dX8_writeBest_40 : decode cX8_writeBest 40 = .ok (.iinc 2 1, 3) := by decide +kernel
theorem dX8_writeBest_43 : decode cX8_writeBest 43 = .ok (.goto (-41), 3) := by decide +kernel
theorem dX8_writeBest_46 : decode cX8_writeBest 46 = .ok (.return_, 1) := by decide +kernel
theorem dX9_init_0 : decode cX9_init 0 = .ok (.aload_n 0, 1) := by decide +kernel
theorem dX9_init_1 : decode cX9_init 1 = .ok (.invokespecial 1, 3) := by decide +kernel
theorem dX9_init_4 : decode cX9_init 4 = .ok (.aload_n 0, 1) := by decide +kernel
theorem dX9_init_5 : decode cX9_init 5 = .ok (.aload_n 1, 1) := by decide +kernel
theorem dX9_init_6 : decode cX9_init 6 = .ok (.putfield 7, 3) := by decide +kernel
theorem dX9_init_9 : decode cX9_init 9 = .ok (.aload_n 0, 1) := by decide +kernel
theorem dX9_init_10 : decode cX9_init 10 = .ok (.aload_n 2, 1) := by decide +kernel
theorem dX9_init_11 : decode cX9_init 11 = .ok (.putfield 13, 3) := by decide +kernel
theorem dX9_init_14 : decode cX9_init 14 = .ok (.aload_n 0, 1) := by decide +kernel
theorem dX9_init_15 : decode cX9_init 15 = .ok (.aload_n 2, 1) := by decide +kernel
theorem dX9_init_16 : decode cX9_init 16 = .ok (.getfield 17, 3) := by decide +kernel
theorem dX9_init_19 : decode cX9_init 19 = .ok (.putfield 23, 3) := by decide +kernel
theorem dX9_init_22 : decode cX9_init 22 = .ok (.aload_n 2, 1) := by decide +kernel
theorem dX9_init_23 : decode cX9_init 23 = .ok (.getfield 24, 3) := by decide +kernel
theorem dX9_init_26 : decode cX9_init 26 = .ok (.lstore_n 3, 1) := by decide +kernel
theorem dX9_init_27 : decode cX9_init 27 = .ok (.aload_n 0, 1) := by decide +kernel
theorem dX9_init_28 : decode cX9_init 28 = .ok (.aload_n 2, 1) := by decide +kernel
theorem dX9_init_29 : decode cX9_init 29 = .ok (.getfield 28, 3) := by decide +kernel
theorem dX9_init_32 : decode cX9_init 32 = .ok (.ifCond .eq 14, 3) := by decide +kernel
theorem dX9_init_35 : decode cX9_init 35 = .ok (.lload_n 3, 1) := by decide +kernel
theorem dX9_init_36 : decode cX9_init 36 = .ok (.lconst 0, 1) := by decide +kernel
theorem dX9_init_37 : decode cX9_init 37 = .ok (.lcmp, 1) := by decide +kernel
theorem dX9_init_38 : decode cX9_init 38 = .ok (.ifCond .ge 8, 3) := by decide +kernel
theorem dX9_init_41 : decode cX9_init 41 = .ok (.lload_n 3, 1) := by decide +kernel
theorem dX9_init_42 : decode cX9_init 42 = .ok (.lneg, 1) := by decide +kernel
theorem dX9_init_43 : decode cX9_init 43 = .ok (.goto 4, 3) := by decide +kernel
theorem dX9_init_46 : decode cX9_init 46 = .ok (.lload_n 3, 1) := by decide +kernel
theorem dX9_init_47 : decode cX9_init 47 = .ok (.aload_n 0, 1) := by decide +kernel
theorem dX9_init_48 : decode cX9_init 48 = .ok (.getfield 23, 3) := by decide +kernel
theorem dX9_init_51 : decode cX9_init 51 = .ok (.invokestatic 32, 3) := by decide +kernel
theorem dX9_init_54 : decode cX9_init 54 = .ok (.land, 1) := by decide +kernel
theorem dX9_init_55 : decode cX9_init 55 = .ok (.putfield 38, 3) := by decide +kernel
theorem dX9_init_58 : decode cX9_init 58 = .ok (.aload_n 0, 1) := by decide +kernel
theorem dX9_init_59 : decode cX9_init 59 = .ok (.aload_n 0, 1) := by decide +kernel
theorem dX9_init_60 : decode cX9_init 60 = .ok (.getfield 38, 3) := by decide +kernel
theorem dX9_init_63 : decode cX9_init 63 = .ok (.aload_n 0, 1) := by decide +kernel
theorem dX9_init_64 : decode cX9_init 64 = .ok (.getfield 38, 3) := by decide +kernel
theorem dX9_init_67 : decode cX9_init 67 = .ok (.lneg, 1) := by decide +kernel
theorem dX9_init_68 : decode cX9_init 68 = .ok (.land, 1) := by decide +kernel
theorem dX9_init_69 : decode cX9_init 69 = .ok (.lconst 1, 1) := by decide +kernel
theorem dX9_init_70 : decode cX9_init 70 = .ok (.lsub, 1) := by decide +kernel
theorem dX9_init_71 : decode cX9_init 71 = .ok (.invokestatic 41, 3) := by decide +kernel
theorem dX9_init_74 : decode cX9_init 74 = .ok (.putfield 47, 3) := by decide +kernel
theorem dX9_init_77 : decode cX9_init 77 = .ok (.aload_n 0, 1) := by decide +kernel
theorem dX9_init_78 : decode cX9_init 78 = .ok (.aload_n 0, 1) := by decide +kernel
theorem dX9_init_79 : decode cX9_init 79 = .ok (.getfield 38, 3) := by decide +kernel
theorem dX9_init_82 : decode cX9_init 82 = .ok (.aload_n 0, 1) := by decide +kernel
theorem dX9_init_83 : decode cX9_init 83 = .ok (.getfield 47, 3) := by decide +kernel
theorem dX9_init_86 : decode cX9_init 86 = .ok (.lushr, 1) := by decide +kernel
theorem dX9_init_87 : decode cX9_init 87 = .ok (.putfield 50, 3) := by decide +kernel
theorem dX9_init_90 : decode cX9_init 90 = .ok (.return_, 1) := by decide +kernel
theorem dX9_writePlain_0 : decode cX9_writePlain 0 = .ok (.aload_n 0, 1) := by decide +kernel
theorem dX9_writePlain_1 : decode cX9_writePlain 1 = .ok (.getfield 13, 3) := by decide +kernel
theorem dX9_writePlain_4 : decode cX9_writePlain 4 = .ok (.getfield 53, 3) := by decide +kernel
theorem dX9_writePlain_7 : decode cX9_writePlain 7 = .ok (.tableswitch 111 2 5 #[29, 29, 70, 78], 29) := by decide +kernel
theorem dX9_writePlain_36 : decode cX9_writePlain 36 = .ok (.aload_n 0, 1) := by decide +kernel
theorem dX9_writePlain_37 : decode cX9_writePlain 37 = .ok (.getfield 50, 3) := by decide +kernel
theorem dX9_writePlain_40 : decode cX9_writePlain 40 = .ok (.lconst 1, 1) := by decide +kernel
theorem dX9_writePlain_41 : decode cX9_writePlain 41 = .ok (.lcmp, 1) := by decide +kernel
theorem dX9_writePlain_42 : decode cX9_writePlain 42 = .ok (.ifCond .ne 23, 3) := by decide +kernel
theorem dX9_writePlain_45 : decode cX9_writePlain 45 = .ok (.aload_n 0, 1) := by decide +kernel
theorem dX9_writePlain_46 : decode cX9_writePlain 46 = .ok (.getfield 7, 3) := by decide +kernel
theorem dX9_writePlain_49 : decode cX9_writePlain 49 = .ok (.bipush 9, 2) := by decide +kernel
theorem dX9_writePlain_51 : decode cX9_writePlain 51 = .ok (.iconst 0, 1) := by decide +kernel
theorem dX9_writePlain_52 : decode cX9_writePlain 52 = .ok (.aload_n 0, 1) := by decide +kernel
theorem dX9_writePlain_53 : decode cX9_writePlain 53 = .ok (.getfield 38, 3) := by decide +kernel
theorem dX9_writePlain_56 : decode cX9_writePlain 56 = .ok (.lconst 1, 1) := by decide +kernel
theorem dX9_writePlain_57 : decode cX9_writePlain 57 = .ok (.lsub, 1) := by decide +kernel
theorem dX9_writePlain_58 : decode cX9_writePlain 58 = .ok (.invokevirtual 56, 3) := by decide +kernel
theorem dX9_writePlain_61 : decode cX9_writePlain 61 = .ok (.pop, 1) := by decide +kernel
theorem dX9_writePlain_62 : decode cX9_writePlain 62 = .ok (.goto 62, 3) := by decide +kernel
theorem dX9_writePlain_65 : decode cX9_writePlain 65 = .ok (.aload_n 0, 1) := by decide +kernel
theorem dX9_writePlain_66 : decode cX9_writePlain 66 = .ok (.aload_n 0, 1) := by decide +kernel
theorem dX9_writePlain_67 : decode cX9_writePlain 67 = .ok (.iconst 0, 1) := by decide +kernel
theorem dX9_writePlain_68 : decode cX9_writePlain 68 = .ok (.invokevirtual 62, 3) := by decide +kernel
theorem dX9_writePlain_71 : decode cX9_writePlain 71 = .ok (.invokevirtual 66, 3) := by decide +kernel
theorem dX9_writePlain_74 : decode cX9_writePlain 74 = .ok (.goto 50, 3) := by decide +kernel
theorem dX9_writePlain_77 : decode cX9_writePlain 77 = .ok (.aload_n 0, 1) := by decide +kernel
theorem dX9_writePlain_78 : decode cX9_writePlain 78 = .ok (.iconst 0, 1) := by decide +kernel
theorem dX9_writePlain_79 : decode cX9_writePlain 79 = .ok (.invokevirtual 70, 3) := by decide +kernel
theorem dX9_writePlain_82 : decode cX9_writePlain 82 = .ok (.goto 42, 3) := by decide +kernel
theorem dX9_writePlain_85 : decode cX9_writePlain 85 = .ok (.aload_n 0, 1) := by decide +kernel
theorem dX9_writePlain_86 : decode cX9_writePlain 86 = .ok (.iconst 0, 1) := by decide +kernel
theorem dX9_writePlain_87 : decode cX9_writePlain 87 = .ok (.aload_n 0, 1) := by decide +kernel
theorem dX9_writePlain_88 : decode cX9_writePlain 88 = .ok (.getfield 50, 3) := by decide +kernel
theorem dX9_writePlain_91 : decode cX9_writePlain 91 = .ok (.lconst 1, 1) := by decide +kernel
theorem dX9_writePlain_92 : decode cX9_writePlain 92 = .ok (.lcmp, 1) := by decide +kernel
theorem dX9_writePlain_93 : decode cX9_writePlain 93 = .ok (.ifCond .ne 7, 3) := by decide +kernel
theorem dX9_writePlain_96 : decode cX9_writePlain 96 = .ok (.iconst 1, 1) := by decide +kernel
theorem dX9_writePlain_97 : decode cX9_writePlain 97 = .ok (.goto 4, 3) := by decide +kernel
theorem dX9_writePlain_100 : decode cX9_writePlain 100 = .ok (.iconst 0, 1) := by decide +kernel
theorem dX9_writePlain_101 : decode cX9_writePlain 101 = .ok (.aload_n 0, 1) := by decide +kernel
theorem dX9_writePlain_102 : decode cX9_writePlain 102 = .ok (.getfield 23, 3) := by decide +kernel
theorem dX9_writePlain_105 : decode cX9_writePlain 105 = .ok (.aload_n 0, 1) := by decide +kernel
theorem dX9_writePlain_106 : decode cX9_writePlain 106 = .ok (.getfield 50, 3) := by decide +kernel
theorem dX9_writePlain_109 : decode cX9_writePlain 109 = .ok (.invokestatic 73, 3) := by decide +kernel
theorem dX9_writePlain_112 : decode cX9_writePlain 112 = .ok (.invokevirtual 77, 3) := by decide +kernel
theorem dX9_writePlain_115 : decode cX9_writePlain 115 = .ok (.goto 9, 3) := by decide +kernel
theorem dX9_writePlain_118 : decode cX9_writePlain 118 = .ok (.aload_n 0, 1) := by decide +kernel
theorem dX9_writePlain_119 : decode cX9_writePlain 119 = .ok (.iconst 0, 1) := by decide +kernel
theorem dX9_writePlain_120 : decode cX9_writePlain 120 = .ok (.invokevirtual 62, 3) := by decide +kernel
theorem dX9_writePlain_123 : decode cX9_writePlain 123 = .ok (.pop, 1) := by decide +kernel
theorem dX9_writePlain_124 : decode cX9_writePlain 124 = .ok (.return_, 1) := by decide +kernel
theorem dX9_writeSigned_0 : decode cX9_writeSigned 0 = .ok (.aload_n 0, 1) := by decide +kernel
theorem dX9_writeSigned_1 : decode cX9_writeSigned 1 = .ok (.getfield 13, 3) := by decide +kernel
theorem dX9_writeSigned_4 : decode cX9_writeSigned 4 = .ok (.getfield 53, 3) := by decide +kernel
theorem dX9_writeSigned_7 : decode cX9_writeSigned 7 = .ok (.tableswitch 82 0 4 #[33, 41, 49, 60, 71], 33) := by decide +kernel
theorem dX9_writeSigned_40 : decode cX9_writeSigned 40 = .ok (.aload_n 0, 1) := by decide +kernel
theorem dX9_writeSigned_41 : decode cX9_writeSigned 41 = .ok (.invokevirtual 81, 3) := by decide +kernel
theorem dX9_writeSigned_44 : decode cX9_writeSigned 44 = .ok (.pop, 1) := by decide +kernel
theorem dX9_writeSigned_45 : decode cX9_writeSigned 45 = .ok (.goto 81, 3) := by decide +kernel
theorem dX9_writeSigned_48 : decode cX9_writeSigned 48 = .ok (.aload_n 0, 1) := by decide +kernel
theorem dX9_writeSigned_49 : decode cX9_writeSigned 49 = .ok (.invokevirtual 85, 3) := by decide +kernel
theorem dX9_writeSigned_52 : decode cX9_writeSigned 52 = .ok (.pop, 1) := by decide +kernel
theorem dX9_writeSigned_53 : decode cX9_writeSigned 53 = .ok (.goto 73, 3) := by decide +kernel
theorem dX9_writeSigned_56 : decode cX9_writeSigned 56 = .ok (.aload_n 0, 1) := by decide +kernel
theorem dX9_writeSigned_57 : decode cX9_writeSigned 57 = .ok (.aload_n 0, 1) := by decide +kernel
theorem dX9_writeSigned_58 : decode cX9_writeSigned 58 = .ok (.invokevirtual 81, 3) := by decide +kernel
theorem dX9_writeSigned_61 : decode cX9_writeSigned 61 = .ok (.invokevirtual 66, 3) := by decide +kernel
theorem dX9_writeSigned_64 : decode cX9_writeSigned 64 = .ok (.goto 62, 3) := by decide +kernel
theorem dX9_writeSigned_67 : decode cX9_writeSigned 67 = .ok (.aload_n 0, 1) := by decide +kernel
theorem dX9_writeSigned_68 : decode cX9_writeSigned 68 = .ok (.aload_n 0, 1) := by decide +kernel
theorem dX9_writeSigned_69 : decode cX9_writeSigned 69 = .ok (.invokevirtual 85, 3) := by decide +kernel
theorem dX9_writeSigned_72 : decode cX9_writeSigned 72 = .ok (.invokevirtual 66, 3) := by decide +kernel
theorem dX9_writeSigned_75 : decode cX9_writeSigned 75 = .ok (.goto 51, 3) := by decide +kernel
theorem dX9_writeSigned_78 : decode cX9_writeSigned 78 = .ok (.aload_n 0, 1) := by decide +kernel
theorem dX9_writeSigned_79 : decode cX9_writeSigned 79 = .ok (.aload_n 0, 1) := by decide +kernel
theorem dX9_writeSigned_80 : decode cX9_writeSigned 80 = .ok (.invokevirtual 88, 3) := by decide +kernel
theorem dX9_writeSigned_83 : decode cX9_writeSigned 83 = .ok (.invokevirtual 70, 3) := by decide +kernel
theorem dX9_writeSigned_86 : decode cX9_writeSigned 86 = .ok (.goto 40, 3) := by decide +kernel
theorem dX9_writeSigned_89 : decode cX9_writeSigned 89 = .ok (.aload_n 0, 1) := by decide +kernel
theorem dX9_writeSigned_90 : decode cX9_writeSigned 90 = .ok (.getfield 13, 3) := by decide +kernel
theorem dX9_writeSigned_93 : decode cX9_writeSigned 93 = .ok (.getfield 24, 3) := by decide +kernel
theorem dX9_writeSigned_96 : decode cX9_writeSigned 96 = .ok (.aload_n 0, 1) := by decide +kernel
theorem dX9_writeSigned_97 : decode cX9_writeSigned 97 = .ok (.getfield 47, 3) := by decide +kernel
theorem dX9_writeSigned_100 : decode cX9_writeSigned 100 = .ok (.lshr, 1) := by decide +kernel
theorem dX9_writeSigned_101 : decode cX9_writeSigned 101 = .ok (.lstore_n 1, 1) := by decide +kernel
theorem dX9_writeSigned_102 : decode cX9_writeSigned 102 = .ok (.aload_n 0, 1) := by decide +kernel
theorem dX9_writeSigned_103 : decode cX9_writeSigned 103 = .ok (.iconst 1, 1) := by decide +kernel
theorem dX9_writeSigned_104 : decode cX9_writeSigned 104 = .ok (.lload_n 1, 1) := by decide +kernel
theorem dX9_writeSigned_105 : decode cX9_writeSigned 105 = .ok (.lconst 1, 1) := by decide +kernel
theorem dX9_writeSigned_106 : decode cX9_writeSigned 106 = .ok (.lcmp, 1) := by decide +kernel
theorem dX9_writeSigned_107 : decode cX9_writeSigned 107 = .ok (.ifCond .ne 7, 3) := by decide +kernel
theorem dX9_writeSigned_110 : decode cX9_writeSigned 110 = .ok (.iconst 1, 1) := by decide +kernel
theorem dX9_writeSigned_111 : decode cX9_writeSigned 111 = .ok (.goto 4, 3) := by decide +kernel
theorem dX9_writeSigned_114 : decode cX9_writeSigned 114 = .ok (.iconst 0, 1) := by decide +kernel
theorem dX9_writeSigned_115 : decode cX9_writeSigned 115 = .ok (.aload_n 0, 1) := by decide +kernel
theorem dX9_writeSigned_116 : decode cX9_writeSigned 116 = .ok (.getfield 23, 3) := by decide +kernel
theorem dX9_writeSigned_119 : decode cX9_writeSigned 119 = .ok (.lload_n 1, 1) := by decide +kernel
theorem dX9_writeSigned_120 : decode cX9_writeSigned 120 = .ok (.invokestatic 73, 3) := by decide +kernel
theorem dX9_writeSigned_123 : decode cX9_writeSigned 123 = .ok (.invokevirtual 77, 3) := by decide +kernel
theorem dX9_writeSigned_126 : decode cX9_writeSigned 126 = .ok (.return_, 1) := by decide +kernel
theorem dX9_plainQuotient_0 : decode cX9_plainQuotient 0 = .ok (.aload_n 0, 1) := by decide +kernel
theorem dX9_plainQuotient_1 : decode cX9_plainQuotient 1 = .ok (.getfield 50, 3) := by decide +kernel
theorem dX9_plainQuotient_4 : decode cX9_plainQuotient 4 = .ok (.lconst 1, 1) := by decide +kernel
theorem dX9_plainQuotient_5 : decode cX9_plainQuotient 5 = .ok (.lcmp, 1) := by decide +kernel
theorem dX9_plainQuotient_6 : decode cX9_plainQuotient 6 = .ok (.ifCond .ne 18, 3) := by decide +kernel
theorem dX9_plainQuotient_9 : decode cX9_plainQuotient 9 = .ok (.aload_n 0, 1) := by decide +kernel
theorem dX9_plainQuotient_10 : decode cX9_plainQuotient 10 = .ok (.getfield 7, 3) := by decide +kernel
theorem dX9_plainQuotient_13 : decode cX9_plainQuotient 13 = .ok (.iconst 0, 1) := by decide +kernel
theorem dX9_plainQuotient_14 : decode cX9_plainQuotient 14 = .ok (.iload_n 1, 1) := by decide +kernel
theorem dX9_plainQuotient_15 : decode cX9_plainQuotient 15 = .ok (.aload_n 0, 1) := by decide +kernel
theorem dX9_plainQuotient_16 : decode cX9_plainQuotient 16 = .ok (.getfield 47, 3) := by decide +kernel
theorem dX9_plainQuotient_19 : decode cX9_plainQuotient 19 = .ok (.i2l, 1) := by decide +kernel
theorem dX9_plainQuotient_20 : decode cX9_plainQuotient 20 = .ok (.invokevirtual 56, 3) := by decide +kernel
theorem dX9_plainQuotient_23 : decode cX9_plainQuotient 23 = .ok (.ireturn, 1) := by decide +kernel
theorem dX9_plainQuotient_24 : decode cX9_plainQuotient 24 = .ok (.new 91, 3) := by decide +kernel
theorem dX9_plainQuotient_27 : decode cX9_plainQuotient 27 = .ok (.dup, 1) := by decide +kernel
theorem dX9_plainQuotient_28 : decode cX9_plainQuotient 28 = .ok (.aload_n 0, 1) := by decide +kernel
theorem dX9_plainQuotient_29 : decode cX9_plainQuotient 29 = .ok (.getfield 23, 3) := by decide +kernel
theorem dX9_plainQuotient_32 : decode cX9_plainQuotient 32 = .ok (.aload_n 0, 1) := by decide +kernel
theorem dX9_plainQuotient_33 : decode cX9_plainQuotient 33 = .ok (.getfield 38, 3) := by decide +kernel
theorem dX9_plainQuotient_36 : decode cX9_plainQuotient 36 = .ok (.iconst 0, 1) := by decide +kernel
theorem dX9_plainQuotient_37 : decode cX9_plainQuotient 37 = .ok (.invokespecial 93, 3) := by decide +kernel
theorem dX9_plainQuotient_40 : decode cX9_plainQuotient 40 = .ok (.astore_n 2, 1) := by decide +kernel
theorem dX9_plainQuotient_41 : decode cX9_plainQuotient 41 = .ok (.aload_n 0, 1) := by decide +kernel
theorem dX9_plainQuotient_42 : decode cX9_plainQuotient 42 = .ok (.getfield 7, 3) := by decide +kernel
theorem dX9_plainQuotient_45 : decode cX9_plainQuotient 45 = .ok (.iconst 2, 1) := by decide +kernel
theorem dX9_plainQuotient_46 : decode cX9_plainQuotient 46 = .ok (.iload_n 1, 1) := by decide +kernel
theorem dX9_plainQuotient_47 : decode cX9_plainQuotient 47 = .ok (.aload_n 2, 1) := by decide +kernel
theorem dX9_plainQuotient_48 : decode cX9_plainQuotient 48 = .ok (.getfield 96, 3) := by decide +kernel
theorem dX9_plainQuotient_51 : decode cX9_plainQuotient 51 = .ok (.invokevirtual 56, 3) := by decide +kernel
theorem dX9_plainQuotient_54 : decode cX9_plainQuotient 54 = .ok (.istore_n 3, 1) := by decide +kernel
theorem dX9_plainQuotient_55 : decode cX9_plainQuotient 55 = .ok (.aload_n 2, 1) := by decide +kernel
theorem dX9_plainQuotient_56 : decode cX9_plainQuotient 56 = .ok (.getfield 99, 3) := by decide +kernel
theorem dX9_plainQuotient_59 : decode cX9_plainQuotient 59 = .ok (.ifCond .ne 29, 3) := by decide +kernel
theorem dX9_plainQuotient_62 : decode cX9_plainQuotient 62 = .ok (.aload_n 2, 1) := by decide +kernel
theorem dX9_plainQuotient_63 : decode cX9_plainQuotient 63 = .ok (.getfield 102, 3) := by decide +kernel
theorem dX9_plainQuotient_66 : decode cX9_plainQuotient 66 = .ok (.ifCond .le 20, 3) := by decide +kernel
theorem dX9_plainQuotient_69 : decode cX9_plainQuotient 69 = .ok (.aload_n 0, 1) := by decide +kernel
theorem dX9_plainQuotient_70 : decode cX9_plainQuotient 70 = .ok (.getfield 7, 3) := by decide +kernel
theorem dX9_plainQuotient_73 : decode cX9_plainQuotient 73 = .ok (.iconst 0, 1) := by decide +kernel
theorem dX9_plainQuotient_74 : decode cX9_plainQuotient 74 = .ok (.iload_n 3, 1) := by decide +kernel
theorem dX9_plainQuotient_75 : decode cX9_plainQuotient 75 = .ok (.aload_n 2, 1) := by decide +kernel
theorem dX9_plainQuotient_76 : decode cX9_plainQuotient 76 = .ok (.getfield 102, 3) := by decide +kernel
theorem dX9_plainQuotient_79 : decode cX9_plainQuotient 79 = .ok (.i2l, 1) := by decide +kernel
theorem dX9_plainQuotient_80 : decode cX9_plainQuotient 80 = .ok (.invokevirtual 56, 3) := by decide +kernel
theorem dX9_plainQuotient_83 : decode cX9_plainQuotient 83 = .ok (.goto 4, 3) := by decide +kernel
theorem dX9_plainQuotient_86 : decode cX9_plainQuotient 86 = .ok (.iload_n 3, 1) := by decide +kernel
theorem dX9_plainQuotient_87 : decode cX9_plainQuotient 87 = .ok (.ireturn, 1) := by decide +kernel
theorem dX9_plainQuotient_88 : decode cX9_plainQuotient 88 = .ok (.aload_n 0, 1) := by decide +kernel
theorem dX9_plainQuotient_89 : decode cX9_plainQuotient 89 = .ok (.getfield 7, 3) := by decide +kernel
theorem dX9_plainQuotient_92 : decode cX9_plainQuotient 92 = .ok (.bipush 6, 2) := by decide +kernel
theorem dX9_plainQuotient_94 : decode cX9_plainQuotient 94 = .ok (.iload_n 1, 1) := by decide +kernel
theorem dX9_plainQuotient_95 : decode cX9_plainQuotient 95 = .ok (.iload_n 3, 1) := by decide +kernel
theorem dX9_plainQuotient_96 : decode cX9_plainQuotient 96 = .ok (.i2l, 1) := by decide +kernel
theorem dX9_plainQuotient_97 : decode cX9_plainQuotient 97 = .ok (.invokevirtual 56, 3) := by decide +kernel
theorem dX9_plainQuotient_100 : decode cX9_plainQuotient 100 = .ok (.istore 4, 2) := by decide +kernel
theorem dX9_plainQuotient_102 : decode cX9_plainQuotient 102 = .ok (.aload_n 0, 1) := by decide +kernel
theorem dX9_plainQuotient_103 : decode cX9_plainQuotient 103 = .ok (.getfield 7, 3) := by decide +kernel
theorem dX9_plainQuotient_106 : decode cX9_plainQuotient 106 = .ok (.iconst 0, 1) := by decide +kernel
theorem dX9_plainQuotient_107 : decode cX9_plainQuotient 107 = .ok (.iload 4, 2) := by decide +kernel
theorem dX9_plainQuotient_109 : decode cX9_plainQuotient 109 = .ok (.lconst 1, 1) := by decide +kernel
theorem dX9_plainQuotient_110 : decode cX9_plainQuotient 110 = .ok (.invokevirtual 56, 3) := by decide +kernel
theorem dX9_plainQuotient_113 : decode cX9_plainQuotient 113 = .ok (.istore 5, 2) := by decide +kernel
theorem dX9_plainQuotient_115 : decode cX9_plainQuotient 115 = .ok (.aload_n 0, 1) := by decide +kernel
theorem dX9_plainQuotient_116 : decode cX9_plainQuotient 116 = .ok (.getfield 7, 3) := by decide +kernel
theorem dX9_plainQuotient_119 : decode cX9_plainQuotient 119 = .ok (.iconst 5, 1) := by decide +kernel
theorem dX9_plainQuotient_120 : decode cX9_plainQuotient 120 = .ok (.iload 5, 2) := by decide +kernel
theorem dX9_plainQuotient_122 : decode cX9_plainQuotient 122 = .ok (.iload_n 3, 1) := by decide +kernel
theorem dX9_plainQuotient_123 : decode cX9_plainQuotient 123 = .ok (.i2l, 1) := by decide +kernel
theorem dX9_plainQuotient_124 : decode cX9_plainQuotient 124 = .ok (.invokevirtual 56, 3) := by decide +kernel
theorem dX9_plainQuotient_127 : decode cX9_plainQuotient 127 = .ok (.istore 6, 2) := by decide +kernel
theorem dX9_plainQuotient_129 : decode cX9_plainQuotient 129 = .ok (.aload_n 2, 1) := by decide +kernel
theorem dX9_plainQuotient_130 : decode cX9_plainQuotient 130 = .ok (.getfield 102, 3) := by decide +kernel
theorem dX9_plainQuotient_133 : decode cX9_plainQuotient 133 = .ok (.iconst 1, 1) := by decide +kernel
theorem dX9_plainQuotient_134 : decode cX9_plainQuotient 134 = .ok (.if_icmp .le 23, 3) := by decide +kernel
theorem dX9_plainQuotient_137 : decode cX9_plainQuotient 137 = .ok (.aload_n 0, 1) := by decide +kernel
theorem dX9_plainQuotient_138 : decode cX9_plainQuotient 138 = .ok (.getfield 7, 3) := by decide +kernel
theorem dX9_plainQuotient_141 : decode cX9_plainQuotient 141 = .ok (.iconst 0, 1) := by decide +kernel
theorem dX9_plainQuotient_142 : decode cX9_plainQuotient 142 = .ok (.iload 6, 2) := by decide +kernel
theorem dX9_plainQuotient_144 : decode cX9_plainQuotient 144 = .ok (.aload_n 2, 1) := by decide +kernel
theorem dX9_plainQuotient_145 : decode cX9_plainQuotient 145 = .ok (.getfield 102, 3) := by decide +kernel
theorem dX9_plainQuotient_148 : decode cX9_plainQuotient 148 = .ok (.iconst 1, 1) := by decide +kernel
theorem dX9_plainQuotient_149 : decode cX9_plainQuotient 149 = .ok (.isub, 1) := by decide +kernel
theorem dX9_plainQuotient_150 : decode cX9_plainQuotient 150 = .ok (.i2l, 1) := by decide +kernel
theorem dX9_plainQuotient_151 : decode cX9_plainQuotient 151 = .ok (.invokevirtual 56, 3) := by decide +kernel
theorem dX9_plainQuotient_154 : decode cX9_plainQuotient 154 = .ok (.goto 5, 3) := by decide +kernel
theorem dX9_plainQuotient_157 : decode cX9_plainQuotient 157 = .ok (.iload 6, 2) := by decide +kernel
theorem dX9_plainQuotient_159 : decode cX9_plainQuotient 159 = .ok (.ireturn, 1) := by decide +kernel
theorem dX9_signedQuotient_0 : decode cX9_signedQuotient 0 = .ok (.aload_n 0, 1) := by decide +kernel
theorem dX9_signedQuotient_1 : decode cX9_signedQuotient 1 = .ok (.getfield 38, 3) := by decide +kernel
theorem dX9_signedQuotient_4 : decode cX9_signedQuotient 4 = .ok (.lconst 1, 1) := by decide +kernel
theorem dX9_signedQuotient_5 : decode cX9_signedQuotient 5 = .ok (.lcmp, 1) := by decide +kernel
theorem dX9_signedQuotient_6 : decode cX9_signedQuotient 6 = .ok (.ifCond .ne 31, 3) := by decide +kernel
theorem dX9_signedQuotient_9 : decode cX9_signedQuotient 9 = .ok (.aload_n 0, 1) := by decide +kernel
theorem dX9_signedQuotient_10 : decode cX9_signedQuotient 10 = .ok (.getfield 7, 3) := by decide +kernel
theorem dX9_signedQuotient_13 : decode cX9_signedQuotient 13 = .ok (.aload_n 0, 1) := by decide +kernel
theorem dX9_signedQuotient_14 : decode cX9_signedQuotient 14 = .ok (.getfield 13, 3) := by decide +kernel
theorem dX9_signedQuotient_17 : decode cX9_signedQuotient 17 = .ok (.getfield 24, 3) := by decide +kernel
theorem dX9_signedQuotient_20 : decode cX9_signedQuotient 20 = .ok (.lconst 1, 1) := by decide +kernel
theorem dX9_signedQuotient_21 : decode cX9_signedQuotient 21 = .ok (.lcmp, 1) := by decide +kernel
theorem dX9_signedQuotient_22 : decode cX9_signedQuotient 22 = .ok (.ifCond .ne 7, 3) := by decide +kernel
theorem dX9_signedQuotient_25 : decode cX9_signedQuotient 25 = .ok (.iconst 0, 1) := by decide +kernel
theorem dX9_signedQuotient_26 : decode cX9_signedQuotient 26 = .ok (.goto 5, 3) := by decide +kernel
theorem dX9_signedQuotient_29 : decode cX9_signedQuotient 29 = .ok (.bipush 7, 2) := by decide +kernel
theorem dX9_signedQuotient_31 : decode cX9_signedQuotient 31 = .ok (.iconst 0, 1) := by decide +kernel
theorem dX9_signedQuotient_32 : decode cX9_signedQuotient 32 = .ok (.lconst 0, 1) := by decide +kernel
theorem dX9_signedQuotient_33 : decode cX9_signedQuotient 33 = .ok (.invokevirtual 56, 3) := by decide +kernel
theorem dX9_signedQuotient_36 : decode cX9_signedQuotient 36 = .ok (.ireturn, 1) := by decide +kernel
theorem dX9_signedQuotient_37 : decode cX9_signedQuotient 37 = .ok (.aload_n 0, 1) := by decide +kernel
theorem dX9_signedQuotient_38 : decode cX9_signedQuotient 38 = .ok (.getfield 50, 3) := by decide +kernel
theorem dX9_signedQuotient_41 : decode cX9_signedQuotient 41 = .ok (.lconst 1, 1) := by decide +kernel
theorem dX9_signedQuotient_42 : decode cX9_signedQuotient 42 = .ok (.lcmp, 1) := by decide +kernel
theorem dX9_signedQuotient_43 : decode cX9_signedQuotient 43 = .ok (.ifCond .ne 10, 3) := by decide +kernel
theorem dX9_signedQuotient_46 : decode cX9_signedQuotient 46 = .ok (.aload_n 0, 1) := by decide +kernel
theorem dX9_signedQuotient_47 : decode cX9_signedQuotient 47 = .ok (.invokevirtual 105, 3) := by decide +kernel
theorem dX9_signedQuotient_50 : decode cX9_signedQuotient 50 = .ok (.goto 7, 3) := by decide +kernel
theorem dX9_signedQuotient_53 : decode cX9_signedQuotient 53 = .ok (.aload_n 0, 1) := by decide +kernel
theorem dX9_signedQuotient_54 : decode cX9_signedQuotient 54 = .ok (.invokevirtual 108, 3) := by decide +kernel
theorem dX9_signedQuotient_57 : decode cX9_signedQuotient 57 = .ok (.istore_n 1, 1) := by decide +kernel
theorem dX9_signedQuotient_58 : decode cX9_signedQuotient 58 = .ok (.aload_n 0, 1) := by decide +kernel
theorem dX9_signedQuotient_59 : decode cX9_signedQuotient 59 = .ok (.getfield 13, 3) := by decide +kernel
theorem dX9_signedQuotient_62 : decode cX9_signedQuotient 62 = .ok (.getfield 24, 3) := by decide +kernel
theorem dX9_signedQuotient_65 : decode cX9_signedQuotient 65 = .ok (.lconst 0, 1) := by decide +kernel
theorem dX9_signedQuotient_66 : decode cX9_signedQuotient 66 = .ok (.lcmp, 1) := by decide +kernel
theorem dX9_signedQuotient_67 : decode cX9_signedQuotient 67 = .ok (.ifCond .ge 17, 3) := by decide +kernel
theorem dX9_signedQuotient_70 : decode cX9_signedQuotient 70 = .ok (.aload_n 0, 1) := by decide +kernel
theorem dX9_signedQuotient_71 : decode cX9_signedQuotient 71 = .ok (.getfield 7, 3) := by decide +kernel
theorem dX9_signedQuotient_74 : decode cX9_signedQuotient 74 = .ok (.bipush 7, 2) := by decide +kernel
theorem dX9_signedQuotient_76 : decode cX9_signedQuotient 76 = .ok (.iload_n 1, 1) := by decide +kernel
theorem dX9_signedQuotient_77 : decode cX9_signedQuotient 77 = .ok (.lconst 0, 1) := by decide +kernel
theorem dX9_signedQuotient_78 : decode cX9_signedQuotient 78 = .ok (.invokevirtual 56, 3) := by decide +kernel
theorem dX9_signedQuotient_81 : decode cX9_signedQuotient 81 = .ok (.goto 4, 3) := by decide +kernel
theorem dX9_signedQuotient_84 : decode cX9_signedQuotient 84 = .ok (.iload_n 1, 1) := by decide +kernel
theorem dX9_signedQuotient_85 : decode cX9_signedQuotient 85 = .ok (.ireturn, 1) := by decide +kernel
theorem dX9_signedByShifting_0 : decode cX9_signedByShifting 0 = .ok (.aload_n 0, 1) := by decide +kernel
theorem dX9_signedByShifting_1 : decode cX9_signedByShifting 1 = .ok (.getfield 7, 3) := by decide +kernel
theorem dX9_signedByShifting_4 : decode cX9_signedByShifting 4 = .ok (.iconst 1, 1) := by decide +kernel
theorem dX9_signedByShifting_5 : decode cX9_signedByShifting 5 = .ok (.iconst 0, 1) := by decide +kernel
theorem dX9_signedByShifting_6 : decode cX9_signedByShifting 6 = .ok (.aload_n 0, 1) := by decide +kernel
theorem dX9_signedByShifting_7 : decode cX9_signedByShifting 7 = .ok (.getfield 23, 3) := by decide +kernel
theorem dX9_signedByShifting_10 : decode cX9_signedByShifting 10 = .ok (.iconst 1, 1) := by decide +kernel
theorem dX9_signedByShifting_11 : decode cX9_signedByShifting 11 = .ok (.isub, 1) := by decide +kernel
theorem dX9_signedByShifting_12 : decode cX9_signedByShifting 12 = .ok (.i2l, 1) := by decide +kernel
theorem dX9_signedByShifting_13 : decode cX9_signedByShifting 13 = .ok (.invokevirtual 56, 3) := by decide +kernel
theorem dX9_signedByShifting_16 : decode cX9_signedByShifting 16 = .ok (.istore_n 1, 1) := by decide +kernel
theorem dX9_signedByShifting_17 : decode cX9_signedByShifting 17 = .ok (.aload_n 0, 1) := by decide +kernel
theorem dX9_signedByShifting_18 : decode cX9_signedByShifting 18 = .ok (.getfield 7, 3) := by decide +kernel
theorem dX9_signedByShifting_21 : decode cX9_signedByShifting 21 = .ok (.iconst 0, 1) := by decide +kernel
theorem dX9_signedByShifting_22 : decode cX9_signedByShifting 22 = .ok (.iload_n 1, 1) := by decide +kernel
theorem dX9_signedByShifting_23 : decode cX9_signedByShifting 23 = .ok (.aload_n 0, 1) := by decide +kernel
theorem dX9_signedByShifting_24 : decode cX9_signedByShifting 24 = .ok (.getfield 23, 3) := by decide +kernel
theorem dX9_signedByShifting_27 : decode cX9_signedByShifting 27 = .ok (.aload_n 0, 1) := by decide +kernel
theorem dX9_signedByShifting_28 : decode cX9_signedByShifting 28 = .ok (.getfield 47, 3) := by decide +kernel
theorem dX9_signedByShifting_31 : decode cX9_signedByShifting 31 = .ok (.isub, 1) := by decide +kernel
theorem dX9_signedByShifting_32 : decode cX9_signedByShifting 32 = .ok (.i2l, 1) := by decide +kernel
theorem dX9_signedByShifting_33 : decode cX9_signedByShifting 33 = .ok (.invokevirtual 56, 3) := by decide +kernel
theorem dX9_signedByShifting_36 : decode cX9_signedByShifting 36 = .ok (.istore_n 2, 1) := by decide +kernel
theorem dX9_signedByShifting_37 : decode cX9_signedByShifting 37 = .ok (.aload_n 0, 1) := by decide +kernel
theorem dX9_signedByShifting_38 : decode cX9_signedByShifting 38 = .ok (.getfield 7, 3) := by decide +kernel
theorem dX9_signedByShifting_41 : decode cX9_signedByShifting 41 = .ok (.iconst 5, 1) := by decide +kernel
theorem dX9_signedByShifting_42 : decode cX9_signedByShifting 42 = .ok (.iconst 0, 1) := by decide +kernel
theorem dX9_signedByShifting_43 : decode cX9_signedByShifting 43 = .ok (.iload_n 2, 1) := by decide +kernel
theorem dX9_signedByShifting_44 : decode cX9_signedByShifting 44 = .ok (.i2l, 1) := by decide +kernel
theorem dX9_signedByShifting_45 : decode cX9_signedByShifting 45 = .ok (.invokevirtual 56, 3) := by decide +kernel
theorem dX9_signedByShifting_48 : decode cX9_signedByShifting 48 = .ok (.istore_n 3, 1) := by decide +kernel
theorem dX9_signedByShifting_49 : decode cX9_signedByShifting 49 = .ok (.aload_n 0, 1) := by decide +kernel
theorem dX9_signedByShifting_50 : decode cX9_signedByShifting 50 = .ok (.getfield 7, 3) := by decide +kernel
theorem dX9_signedByShifting_53 : decode cX9_signedByShifting 53 = .ok (.iconst 1, 1) := by decide +kernel
theorem dX9_signedByShifting_54 : decode cX9_signedByShifting 54 = .ok (.iload_n 3, 1) := by decide +kernel
theorem dX9_signedByShifting_55 : decode cX9_signedByShifting 55 = .ok (.aload_n 0, 1) := by decide +kernel
theorem dX9_signedByShifting_56 : decode cX9_signedByShifting 56 = .ok (.getfield 47, 3) := by decide +kernel
theorem dX9_signedByShifting_59 : decode cX9_signedByShifting 59 = .ok (.i2l, 1) := by decide +kernel
theorem dX9_signedByShifting_60 : decode cX9_signedByShifting 60 = .ok (.invokevirtual 56, 3) := by decide +kernel
theorem dX9_signedByShifting_63 : decode cX9_signedByShifting 63 = .ok (.ireturn, 1) := by decide +kernel
theorem dX9_signedByMultiplying_0 : decode cX9_signedByMultiplying 0 = .ok (.new 91, 3) := by decide +kernel
theorem dX9_signedByMultiplying_3 : decode cX9_signedByMultiplying 3 = .ok (.dup, 1) := by decide +kernel
theorem dX9_signedByMultiplying_4 : decode cX9_signedByMultiplying 4 = .ok (.aload_n 0, 1) := by decide +kernel
theorem dX9_signedByMultiplying_5 : decode cX9_signedByMultiplying 5 = .ok (.getfield 23, 3) := by decide +kernel
theorem dX9_signedByMultiplying_8 : decode cX9_signedByMultiplying 8 = .ok (.aload_n 0, 1) := by decide +kernel
theorem dX9_signedByMultiplying_9 : decode cX9_signedByMultiplying 9 = .ok (.getfield 38, 3) := by decide +kernel
theorem dX9_signedByMultiplying_12 : decode cX9_signedByMultiplying 12 = .ok (.iconst 1, 1) := by decide +kernel
theorem dX9_signedByMultiplying_13 : decode cX9_signedByMultiplying 13 = .ok (.invokespecial 93, 3) := by decide +kernel
theorem dX9_signedByMultiplying_16 : decode cX9_signedByMultiplying 16 = .ok (.astore_n 1, 1) := by decide +kernel
theorem dX9_signedByMultiplying_17 : decode cX9_signedByMultiplying 17 = .ok (.aload_n 0, 1) := by decide +kernel
theorem dX9_signedByMultiplying_18 : decode cX9_signedByMultiplying 18 = .ok (.getfield 7, 3) := by decide +kernel
theorem dX9_signedByMultiplying_21 : decode cX9_signedByMultiplying 21 = .ok (.iconst 3, 1) := by decide +kernel
theorem dX9_signedByMultiplying_22 : decode cX9_signedByMultiplying 22 = .ok (.iconst 0, 1) := by decide +kernel
theorem dX9_signedByMultiplying_23 : decode cX9_signedByMultiplying 23 = .ok (.aload_n 1, 1) := by decide +kernel
theorem dX9_signedByMultiplying_24 : decode cX9_signedByMultiplying 24 = .ok (.getfield 96, 3) := by decide +kernel
theorem dX9_signedByMultiplying_27 : decode cX9_signedByMultiplying 27 = .ok (.invokevirtual 56, 3) := by decide +kernel
theorem dX9_signedByMultiplying_30 : decode cX9_signedByMultiplying 30 = .ok (.istore_n 2, 1) := by decide +kernel
theorem dX9_signedByMultiplying_31 : decode cX9_signedByMultiplying 31 = .ok (.aload_n 1, 1) := by decide +kernel
theorem dX9_signedByMultiplying_32 : decode cX9_signedByMultiplying 32 = .ok (.getfield 99, 3) := by decide +kernel
theorem dX9_signedByMultiplying_35 : decode cX9_signedByMultiplying 35 = .ok (.ifCond .ne 19, 3) := by decide +kernel
theorem dX9_signedByMultiplying_38 : decode cX9_signedByMultiplying 38 = .ok (.aload_n 1, 1) := by decide +kernel
theorem dX9_signedByMultiplying_39 : decode cX9_signedByMultiplying 39 = .ok (.getfield 96, 3) := by decide +kernel
theorem dX9_signedByMultiplying_42 : decode cX9_signedByMultiplying 42 = .ok (.aload_n 0, 1) := by decide +kernel
theorem dX9_signedByMultiplying_43 : decode cX9_signedByMultiplying 43 = .ok (.getfield 23, 3) := by decide +kernel
theorem dX9_signedByMultiplying_46 : decode cX9_signedByMultiplying 46 = .ok (.iconst 1, 1) := by decide +kernel
theorem dX9_signedByMultiplying_47 : decode cX9_signedByMultiplying 47 = .ok (.isub, 1) := by decide +kernel
theorem dX9_signedByMultiplying_48 : decode cX9_signedByMultiplying 48 = .ok (.lushr, 1) := by decide +kernel
theorem dX9_signedByMultiplying_49 : decode cX9_signedByMultiplying 49 = .ok (.lconst 0, 1) := by decide +kernel
theorem dX9_signedByMultiplying_50 : decode cX9_signedByMultiplying 50 = .ok (.lcmp, 1) := by decide +kernel
theorem dX9_signedByMultiplying_51 : decode cX9_signedByMultiplying 51 = .ok (.ifCond .eq 14, 3) := by decide +kernel
theorem dX9_signedByMultiplying_54 : decode cX9_signedByMultiplying 54 = .ok (.aload_n 0, 1) := by decide +kernel
theorem dX9_signedByMultiplying_55 : decode cX9_signedByMultiplying 55 = .ok (.getfield 7, 3) := by decide +kernel
theorem dX9_signedByMultiplying_58 : decode cX9_signedByMultiplying 58 = .ok (.iconst 5, 1) := by decide +kernel
theorem dX9_signedByMultiplying_59 : decode cX9_signedByMultiplying 59 = .ok (.iload_n 2, 1) := by decide +kernel
theorem dX9_signedByMultiplying_60 : decode cX9_signedByMultiplying 60 = .ok (.lconst 0, 1) := by decide +kernel
theorem dX9_signedByMultiplying_61 : decode cX9_signedByMultiplying 61 = .ok (.invokevirtual 56, 3) := by decide +kernel
theorem dX9_signedByMultiplying_64 : decode cX9_signedByMultiplying 64 = .ok (.istore_n 2, 1) := by decide +kernel
theorem dX9_signedByMultiplying_65 : decode cX9_signedByMultiplying 65 = .ok (.aload_n 1, 1) := by decide +kernel
theorem dX9_signedByMultiplying_66 : decode cX9_signedByMultiplying 66 = .ok (.getfield 102, 3) := by decide +kernel
theorem dX9_signedByMultiplying_69 : decode cX9_signedByMultiplying 69 = .ok (.ifCond .le 18, 3) := by decide +kernel
theorem dX9_signedByMultiplying_72 : decode cX9_signedByMultiplying 72 = .ok (.aload_n 0, 1) := by decide +kernel
theorem dX9_signedByMultiplying_73 : decode cX9_signedByMultiplying 73 = .ok (.getfield 7, 3) := by decide +kernel
theorem dX9_signedByMultiplying_76 : decode cX9_signedByMultiplying 76 = .ok (.iconst 1, 1) := by decide +kernel
theorem dX9_signedByMultiplying_77 : decode cX9_signedByMultiplying 77 = .ok (.iload_n 2, 1) := by decide +kernel
theorem dX9_signedByMultiplying_78 : decode cX9_signedByMultiplying 78 = .ok (.aload_n 1, 1) := by decide +kernel
theorem dX9_signedByMultiplying_79 : decode cX9_signedByMultiplying 79 = .ok (.getfield 102, 3) := by decide +kernel
theorem dX9_signedByMultiplying_82 : decode cX9_signedByMultiplying 82 = .ok (.i2l, 1) := by decide +kernel
theorem dX9_signedByMultiplying_83 : decode cX9_signedByMultiplying 83 = .ok (.invokevirtual 56, 3) := by decide +kernel
theorem dX9_signedByMultiplying_86 : decode cX9_signedByMultiplying 86 = .ok (.istore_n 2, 1) := by decide +kernel
theorem dX9_signedByMultiplying_87 : decode cX9_signedByMultiplying 87 = .ok (.aload_n 0, 1) := by decide +kernel
theorem dX9_signedByMultiplying_88 : decode cX9_signedByMultiplying 88 = .ok (.getfield 7, 3) := by decide +kernel
theorem dX9_signedByMultiplying_91 : decode cX9_signedByMultiplying 91 = .ok (.iconst 1, 1) := by decide +kernel
theorem dX9_signedByMultiplying_92 : decode cX9_signedByMultiplying 92 = .ok (.iconst 0, 1) := by decide +kernel
theorem dX9_signedByMultiplying_93 : decode cX9_signedByMultiplying 93 = .ok (.aload_n 0, 1) := by decide +kernel
theorem dX9_signedByMultiplying_94 : decode cX9_signedByMultiplying 94 = .ok (.getfield 23, 3) := by decide +kernel
theorem dX9_signedByMultiplying_97 : decode cX9_signedByMultiplying 97 = .ok (.iconst 1, 1) := by decide +kernel
theorem dX9_signedByMultiplying_98 : decode cX9_signedByMultiplying 98 = .ok (.isub, 1) := by decide +kernel
theorem dX9_signedByMultiplying_99 : decode cX9_signedByMultiplying 99 = .ok (.i2l, 1) := by decide +kernel
theorem dX9_signedByMultiplying_100 : decode cX9_signedByMultiplying 100 = .ok (.invokevirtual 56, 3) := by decide +kernel
theorem dX9_signedByMultiplying_103 : decode cX9_signedByMultiplying 103 = .ok (.istore_n 3, 1) := by decide +kernel
theorem dX9_signedByMultiplying_104 : decode cX9_signedByMultiplying 104 = .ok (.aload_n 0, 1) := by decide +kernel
theorem dX9_signedByMultiplying_105 : decode cX9_signedByMultiplying 105 = .ok (.getfield 7, 3) := by decide +kernel
theorem dX9_signedByMultiplying_108 : decode cX9_signedByMultiplying 108 = .ok (.bipush 6, 2) := by decide +kernel
theorem dX9_signedByMultiplying_110 : decode cX9_signedByMultiplying 110 = .ok (.iload_n 2, 1) := by decide +kernel
theorem dX9_signedByMultiplying_111 : decode cX9_signedByMultiplying 111 = .ok (.iload_n 3, 1) := by decide +kernel
theorem dX9_signedByMultiplying_112 : decode cX9_signedByMultiplying 112 = .ok (.i2l, 1) := by decide +kernel
theorem dX9_signedByMultiplying_113 : decode cX9_signedByMultiplying 113 = .ok (.invokevirtual 56, 3) := by decide +kernel
theorem dX9_signedByMultiplying_116 : decode cX9_signedByMultiplying 116 = .ok (.ireturn, 1) := by decide +kernel
theorem dX9_quotientDownwards_0 : decode cX9_quotientDownwards 0 = .ok (.aload_n 0, 1) := by decide +kernel
theorem dX9_quotientDownwards_1 : decode cX9_quotientDownwards 1 = .ok (.getfield 7, 3) := by decide +kernel
theorem dX9_quotientDownwards_4 : decode cX9_quotientDownwards 4 = .ok (.iconst 1, 1) := by decide +kernel
theorem dX9_quotientDownwards_5 : decode cX9_quotientDownwards 5 = .ok (.iconst 0, 1) := by decide +kernel
theorem dX9_quotientDownwards_6 : decode cX9_quotientDownwards 6 = .ok (.aload_n 0, 1) := by decide +kernel
theorem dX9_quotientDownwards_7 : decode cX9_quotientDownwards 7 = .ok (.getfield 23, 3) := by decide +kernel
theorem dX9_quotientDownwards_10 : decode cX9_quotientDownwards 10 = .ok (.iconst 1, 1) := by decide +kernel
theorem dX9_quotientDownwards_11 : decode cX9_quotientDownwards 11 = .ok (.isub, 1) := by decide +kernel
theorem dX9_quotientDownwards_12 : decode cX9_quotientDownwards 12 = .ok (.i2l, 1) := by decide +kernel
theorem dX9_quotientDownwards_13 : decode cX9_quotientDownwards 13 = .ok (.invokevirtual 56, 3) := by decide +kernel
theorem dX9_quotientDownwards_16 : decode cX9_quotientDownwards 16 = .ok (.istore_n 1, 1) := by decide +kernel
theorem dX9_quotientDownwards_17 : decode cX9_quotientDownwards 17 = .ok (.aload_n 0, 1) := by decide +kernel
theorem dX9_quotientDownwards_18 : decode cX9_quotientDownwards 18 = .ok (.getfield 7, 3) := by decide +kernel
theorem dX9_quotientDownwards_21 : decode cX9_quotientDownwards 21 = .ok (.bipush 8, 2) := by decide +kernel
theorem dX9_quotientDownwards_23 : decode cX9_quotientDownwards 23 = .ok (.iconst 0, 1) := by decide +kernel
theorem dX9_quotientDownwards_24 : decode cX9_quotientDownwards 24 = .ok (.iload_n 1, 1) := by decide +kernel
theorem dX9_quotientDownwards_25 : decode cX9_quotientDownwards 25 = .ok (.i2l, 1) := by decide +kernel
theorem dX9_quotientDownwards_26 : decode cX9_quotientDownwards 26 = .ok (.invokevirtual 56, 3) := by decide +kernel
theorem dX9_quotientDownwards_29 : decode cX9_quotientDownwards 29 = .ok (.istore_n 2, 1) := by decide +kernel
theorem dX9_quotientDownwards_30 : decode cX9_quotientDownwards 30 = .ok (.aload_n 0, 1) := by decide +kernel
theorem dX9_quotientDownwards_31 : decode cX9_quotientDownwards 31 = .ok (.getfield 7, 3) := by decide +kernel
theorem dX9_quotientDownwards_34 : decode cX9_quotientDownwards 34 = .ok (.bipush 8, 2) := by decide +kernel
theorem dX9_quotientDownwards_36 : decode cX9_quotientDownwards 36 = .ok (.aload_n 0, 1) := by decide +kernel
theorem dX9_quotientDownwards_37 : decode cX9_quotientDownwards 37 = .ok (.iload_n 2, 1) := by decide +kernel
theorem dX9_quotientDownwards_38 : decode cX9_quotientDownwards 38 = .ok (.invokevirtual 62, 3) := by decide +kernel
theorem dX9_quotientDownwards_41 : decode cX9_quotientDownwards 41 = .ok (.iload_n 1, 1) := by decide +kernel
theorem dX9_quotientDownwards_42 : decode cX9_quotientDownwards 42 = .ok (.i2l, 1) := by decide +kernel
theorem dX9_quotientDownwards_43 : decode cX9_quotientDownwards 43 = .ok (.invokevirtual 56, 3) := by decide +kernel
theorem dX9_quotientDownwards_46 : decode cX9_quotientDownwards 46 = .ok (.ireturn, 1) := by decide +kernel
theorem dX9_sizeOfNumber_0 : decode cX9_sizeOfNumber 0 = .ok (.aload_n 0, 1) := by decide +kernel
theorem dX9_sizeOfNumber_1 : decode cX9_sizeOfNumber 1 = .ok (.getfield 7, 3) := by decide +kernel
theorem dX9_sizeOfNumber_4 : decode cX9_sizeOfNumber 4 = .ok (.iconst 1, 1) := by decide +kernel
theorem dX9_sizeOfNumber_5 : decode cX9_sizeOfNumber 5 = .ok (.iconst 0, 1) := by decide +kernel
theorem dX9_sizeOfNumber_6 : decode cX9_sizeOfNumber 6 = .ok (.aload_n 0, 1) := by decide +kernel
theorem dX9_sizeOfNumber_7 : decode cX9_sizeOfNumber 7 = .ok (.getfield 23, 3) := by decide +kernel
theorem dX9_sizeOfNumber_10 : decode cX9_sizeOfNumber 10 = .ok (.iconst 1, 1) := by decide +kernel
theorem dX9_sizeOfNumber_11 : decode cX9_sizeOfNumber 11 = .ok (.isub, 1) := by decide +kernel
theorem dX9_sizeOfNumber_12 : decode cX9_sizeOfNumber 12 = .ok (.i2l, 1) := by decide +kernel
theorem dX9_sizeOfNumber_13 : decode cX9_sizeOfNumber 13 = .ok (.invokevirtual 56, 3) := by decide +kernel
theorem dX9_sizeOfNumber_16 : decode cX9_sizeOfNumber 16 = .ok (.istore_n 1, 1) := by decide +kernel
theorem dX9_sizeOfNumber_17 : decode cX9_sizeOfNumber 17 = .ok (.aload_n 0, 1) := by decide +kernel
theorem dX9_sizeOfNumber_18 : decode cX9_sizeOfNumber 18 = .ok (.getfield 7, 3) := by decide +kernel
theorem dX9_sizeOfNumber_21 : decode cX9_sizeOfNumber 21 = .ok (.bipush 8, 2) := by decide +kernel
theorem dX9_sizeOfNumber_23 : decode cX9_sizeOfNumber 23 = .ok (.iconst 0, 1) := by decide +kernel
theorem dX9_sizeOfNumber_24 : decode cX9_sizeOfNumber 24 = .ok (.iload_n 1, 1) := by decide +kernel
theorem dX9_sizeOfNumber_25 : decode cX9_sizeOfNumber 25 = .ok (.i2l, 1) := by decide +kernel
theorem dX9_sizeOfNumber_26 : decode cX9_sizeOfNumber 26 = .ok (.invokevirtual 56, 3) := by decide +kernel
theorem dX9_sizeOfNumber_29 : decode cX9_sizeOfNumber 29 = .ok (.istore_n 2, 1) := by decide +kernel
theorem dX9_sizeOfNumber_30 : decode cX9_sizeOfNumber 30 = .ok (.aload_n 0, 1) := by decide +kernel
theorem dX9_sizeOfNumber_31 : decode cX9_sizeOfNumber 31 = .ok (.getfield 7, 3) := by decide +kernel
theorem dX9_sizeOfNumber_34 : decode cX9_sizeOfNumber 34 = .ok (.bipush 6, 2) := by decide +kernel
theorem dX9_sizeOfNumber_36 : decode cX9_sizeOfNumber 36 = .ok (.iload_n 2, 1) := by decide +kernel
theorem dX9_sizeOfNumber_37 : decode cX9_sizeOfNumber 37 = .ok (.iload_n 1, 1) := by decide +kernel
theorem dX9_sizeOfNumber_38 : decode cX9_sizeOfNumber 38 = .ok (.i2l, 1) := by decide +kernel
theorem dX9_sizeOfNumber_39 : decode cX9_sizeOfNumber 39 = .ok (.invokevirtual 56, 3) := by decide +kernel
theorem dX9_sizeOfNumber_42 : decode cX9_sizeOfNumber 42 = .ok (.ireturn, 1) := by decide +kernel
theorem dX9_restAfter_0 : decode cX9_restAfter 0 = .ok (.aload_n 0, 1) := by decide +kernel
theorem dX9_restAfter_1 : decode cX9_restAfter 1 = .ok (.getfield 7, 3) := by decide +kernel
theorem dX9_restAfter_4 : decode cX9_restAfter 4 = .ok (.iconst 4, 1) := by decide +kernel
theorem dX9_restAfter_5 : decode cX9_restAfter 5 = .ok (.iload_n 1, 1) := by decide +kernel
theorem dX9_restAfter_6 : decode cX9_restAfter 6 = .ok (.aload_n 0, 1) := by decide +kernel
theorem dX9_restAfter_7 : decode cX9_restAfter 7 = .ok (.getfield 13, 3) := by decide +kernel
theorem dX9_restAfter_10 : decode cX9_restAfter 10 = .ok (.getfield 24, 3) := by decide +kernel
theorem dX9_restAfter_13 : decode cX9_restAfter 13 = .ok (.aload_n 0, 1) := by decide +kernel
theorem dX9_restAfter_14 : decode cX9_restAfter 14 = .ok (.getfield 23, 3) := by decide +kernel
theorem dX9_restAfter_17 : decode cX9_restAfter 17 = .ok (.invokestatic 32, 3) := by decide +kernel
theorem dX9_restAfter_20 : decode cX9_restAfter 20 = .ok (.land, 1) := by decide +kernel
theorem dX9_restAfter_21 : decode cX9_restAfter 21 = .ok (.invokevirtual 56, 3) := by decide +kernel
theorem dX9_restAfter_24 : decode cX9_restAfter 24 = .ok (.istore_n 2, 1) := by decide +kernel
theorem dX9_restAfter_25 : decode cX9_restAfter 25 = .ok (.aload_n 0, 1) := by decide +kernel
theorem dX9_restAfter_26 : decode cX9_restAfter 26 = .ok (.getfield 7, 3) := by decide +kernel
theorem dX9_restAfter_29 : decode cX9_restAfter 29 = .ok (.bipush 6, 2) := by decide +kernel
theorem dX9_restAfter_31 : decode cX9_restAfter 31 = .ok (.iconst 0, 1) := by decide +kernel
theorem dX9_restAfter_32 : decode cX9_restAfter 32 = .ok (.iload_n 2, 1) := by decide +kernel
theorem dX9_restAfter_33 : decode cX9_restAfter 33 = .ok (.i2l, 1) := by decide +kernel
theorem dX9_restAfter_34 : decode cX9_restAfter 34 = .ok (.invokevirtual 56, 3) := by decide +kernel
theorem dX9_restAfter_37 : decode cX9_restAfter 37 = .ok (.pop, 1) := by decide +kernel
theorem dX9_restAfter_38 : decode cX9_restAfter 38 = .ok (.return_, 1) := by decide +kernel
theorem dX9_noRest_0 : decode cX9_noRest 0 = .ok (.aload_n 0, 1) := by decide +kernel
theorem dX9_noRest_1 : decode cX9_noRest 1 = .ok (.getfield 7, 3) := by decide +kernel
theorem dX9_noRest_4 : decode cX9_noRest 4 = .ok (.iconst 4, 1) := by decide +kernel
theorem dX9_noRest_5 : decode cX9_noRest 5 = .ok (.iload_n 1, 1) := by decide +kernel
theorem dX9_noRest_6 : decode cX9_noRest 6 = .ok (.aload_n 0, 1) := by decide +kernel
theorem dX9_noRest_7 : decode cX9_noRest 7 = .ok (.getfield 23, 3) := by decide +kernel
theorem dX9_noRest_10 : decode cX9_noRest 10 = .ok (.aload_n 0, 1) := by decide +kernel
theorem dX9_noRest_11 : decode cX9_noRest 11 = .ok (.getfield 50, 3) := by decide +kernel
theorem dX9_noRest_14 : decode cX9_noRest 14 = .ok (.invokestatic 73, 3) := by decide +kernel
theorem dX9_noRest_17 : decode cX9_noRest 17 = .ok (.invokevirtual 56, 3) := by decide +kernel
theorem dX9_noRest_20 : decode cX9_noRest 20 = .ok (.istore_n 2, 1) := by decide +kernel
theorem dX9_noRest_21 : decode cX9_noRest 21 = .ok (.aload_n 0, 1) := by decide +kernel
theorem dX9_noRest_22 : decode cX9_noRest 22 = .ok (.getfield 47, 3) := by decide +kernel
theorem dX9_noRest_25 : decode cX9_noRest 25 = .ok (.ifCond .le 19, 3) := by decide +kernel
theorem dX9_noRest_28 : decode cX9_noRest 28 = .ok (.aload_n 0, 1) := by decide +kernel
theorem dX9_noRest_29 : decode cX9_noRest 29 = .ok (.getfield 7, 3) := by decide +kernel
theorem dX9_noRest_32 : decode cX9_noRest 32 = .ok (.bipush 10, 2) := by decide +kernel
theorem dX9_noRest_34 : decode cX9_noRest 34 = .ok (.iload_n 2, 1) := by decide +kernel
theorem dX9_noRest_35 : decode cX9_noRest 35 = .ok (.aload_n 0, 1) := by decide +kernel
theorem dX9_noRest_36 : decode cX9_noRest 36 = .ok (.getfield 47, 3) := by decide +kernel
theorem dX9_noRest_39 : decode cX9_noRest 39 = .ok (.i2l, 1) := by decide +kernel
theorem dX9_noRest_40 : decode cX9_noRest 40 = .ok (.invokevirtual 56, 3) := by decide +kernel
theorem dX9_noRest_43 : decode cX9_noRest 43 = .ok (.istore_n 2, 1) := by decide +kernel
theorem dX9_noRest_44 : decode cX9_noRest 44 = .ok (.aload_n 0, 1) := by decide +kernel
theorem dX9_noRest_45 : decode cX9_noRest 45 = .ok (.getfield 7, 3) := by decide +kernel
theorem dX9_noRest_48 : decode cX9_noRest 48 = .ok (.bipush 11, 2) := by decide +kernel
theorem dX9_noRest_50 : decode cX9_noRest 50 = .ok (.iload_n 2, 1) := by decide +kernel
theorem dX9_noRest_51 : decode cX9_noRest 51 = .ok (.aload_n 0, 1) := by decide +kernel
theorem dX9_noRest_52 : decode cX9_noRest 52 = .ok (.getfield 23, 3) := by decide +kernel
theorem dX9_noRest_55 : decode cX9_noRest 55 = .ok (.invokestatic 32, 3) := by decide +kernel
theorem dX9_noRest_58 : decode cX9_noRest 58 = .ok (.aload_n 0, 1) := by decide +kernel
theorem dX9_noRest_59 : decode cX9_noRest 59 = .ok (.getfield 38, 3) := by decide +kernel
theorem dX9_noRest_62 : decode cX9_noRest 62 = .ok (.invokestatic 111, 3) := by decide +kernel
theorem dX9_noRest_65 : decode cX9_noRest 65 = .ok (.invokevirtual 56, 3) := by decide +kernel
theorem dX9_noRest_68 : decode cX9_noRest 68 = .ok (.pop, 1) := by decide +kernel
theorem dX9_noRest_69 : decode cX9_noRest 69 = .ok (.return_, 1) := by decide +kernel
theorem dX9_exact_0 : decode cX9_exact 0 = .ok (.iconst 0, 1) := by decide +kernel
theorem dX9_exact_1 : decode cX9_exact 1 = .ok (.istore 5, 2) := by decide +kernel
theorem dX9_exact_3 : decode cX9_exact 3 = .ok (.aload_n 0, 1) := by decide +kernel
theorem dX9_exact_4 : decode cX9_exact 4 = .ok (.getfield 47, 3) := by decide +kernel
theorem dX9_exact_7 : decode cX9_exact 7 = .ok (.ifCond .gt 7, 3) := by decide +kernel
theorem dX9_exact_10 : decode cX9_exact 10 = .ok (.iload_n 2, 1) := by decide +kernel
theorem dX9_exact_11 : decode cX9_exact 11 = .ok (.ifCond .eq 19, 3) := by decide +kernel
theorem dX9_exact_14 : decode cX9_exact 14 = .ok (.aload_n 0, 1) := by decide +kernel
theorem dX9_exact_15 : decode cX9_exact 15 = .ok (.getfield 7, 3) := by decide +kernel
theorem dX9_exact_18 : decode cX9_exact 18 = .ok (.iload_n 1, 1) := by decide +kernel
theorem dX9_exact_19 : decode cX9_exact 19 = .ok (.iconst 0, 1) := by decide +kernel
theorem dX9_exact_20 : decode cX9_exact 20 = .ok (.aload_n 0, 1) := by decide +kernel
theorem dX9_exact_21 : decode cX9_exact 21 = .ok (.getfield 47, 3) := by decide +kernel
theorem dX9_exact_24 : decode cX9_exact 24 = .ok (.i2l, 1) := by decide +kernel
theorem dX9_exact_25 : decode cX9_exact 25 = .ok (.invokevirtual 56, 3) := by decide +kernel
theorem dX9_exact_28 : decode cX9_exact 28 = .ok (.istore 5, 2) := by decide +kernel
theorem dX9_exact_30 : decode cX9_exact 30 = .ok (.iload_n 2, 1) := by decide +kernel
theorem dX9_exact_31 : decode cX9_exact 31 = .ok (.ifCond .ne 15, 3) := by decide +kernel
theorem dX9_exact_34 : decode cX9_exact 34 = .ok (.aload_n 0, 1) := by decide +kernel
theorem dX9_exact_35 : decode cX9_exact 35 = .ok (.getfield 7, 3) := by decide +kernel
theorem dX9_exact_38 : decode cX9_exact 38 = .ok (.iconst 4, 1) := by decide +kernel
theorem dX9_exact_39 : decode cX9_exact 39 = .ok (.iload 5, 2) := by decide +kernel
theorem dX9_exact_41 : decode cX9_exact 41 = .ok (.lload_n 3, 1) := by decide +kernel
theorem dX9_exact_42 : decode cX9_exact 42 = .ok (.invokevirtual 56, 3) := by decide +kernel
theorem dX9_exact_45 : decode cX9_exact 45 = .ok (.pop, 1) := by decide +kernel
theorem dX9_exact_46 : decode cX9_exact 46 = .ok (.return_, 1) := by decide +kernel
