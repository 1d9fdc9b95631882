theorem dX0_init_0 : decode cX0_init 0 = .ok (.aload_n 0, 1) := by decide +kernel
theorem dX0_init_1 : decode cX0_init 1 = .ok (.invokespecial 3, 3) := by decide +kernel
theorem dX0_init_4 : decode cX0_init 4 = .ok (.aload_n 0, 1) := by decide +kernel
theorem dX0_init_5 : decode cX0_init 5 = .ok (.iload_n 1, 1) := by decide +kernel
theorem dX0_init_6 : decode cX0_init 6 = .ok (.putfield 9, 3) := by decide +kernel
theorem dX0_init_9 : decode cX0_init 9 = .ok (.aload_n 0, 1) := by decide +kernel
theorem dX0_init_10 : decode cX0_init 10 = .ok (.iload_n 2, 1) := by decide +kernel
theorem dX0_init_11 : decode cX0_init 11 = .ok (.putfield 15, 3) := by decide +kernel
theorem dX0_init_14 : decode cX0_init 14 = .ok (.aload_n 0, 1) := by decide +kernel
theorem dX0_init_15 : decode cX0_init 15 = .ok (.iload_n 3, 1) := by decide +kernel
theorem dX0_init_16 : decode cX0_init 16 = .ok (.putfield 18, 3) := by decide +kernel
theorem dX0_init_19 : decode cX0_init 19 = .ok (.aload_n 0, 1) := by decide +kernel
theorem dX0_init_20 : decode cX0_init 20 = .ok (.lload 4, 2) := by decide +kernel
theorem dX0_init_22 : decode cX0_init 22 = .ok (.putfield 21, 3) := by decide +kernel
theorem dX0_init_25 : decode cX0_init 25 = .ok (.aload_n 0, 1) := by decide +kernel
theorem dX0_init_26 : decode cX0_init 26 = .ok (.aload 6, 2) := by decide +kernel
theorem dX0_init_28 : decode cX0_init 28 = .ok (.putfield 25, 3) := by decide +kernel
theorem dX0_init_31 : decode cX0_init 31 = .ok (.return_, 1) := by decide +kernel
theorem dX0_isOnForm_0 : decode cX0_isOnForm 0 = .ok (.aload_n 0, 1) := by decide +kernel
theorem dX0_isOnForm_1 : decode cX0_isOnForm 1 = .ok (.getfield 15, 3) := by decide +kernel
theorem dX0_isOnForm_4 : decode cX0_isOnForm 4 = .ok (.iload_n 1, 1) := by decide +kernel
theorem dX0_isOnForm_5 : decode cX0_isOnForm 5 = .ok (.if_icmp .ne 22, 3) := by decide +kernel
theorem dX0_isOnForm_8 : decode cX0_isOnForm 8 = .ok (.aload_n 0, 1) := by decide +kernel
theorem dX0_isOnForm_9 : decode cX0_isOnForm 9 = .ok (.getfield 9, 3) := by decide +kernel
theorem dX0_isOnForm_12 : decode cX0_isOnForm 12 = .ok (.ifCond .eq 11, 3) := by decide +kernel
theorem dX0_isOnForm_15 : decode cX0_isOnForm 15 = .ok (.aload_n 0, 1) := by decide +kernel
theorem dX0_isOnForm_16 : decode cX0_isOnForm 16 = .ok (.getfield 9, 3) := by decide +kernel
theorem dX0_isOnForm_19 : decode cX0_isOnForm 19 = .ok (.iconst 1, 1) := by decide +kernel
theorem dX0_isOnForm_20 : decode cX0_isOnForm 20 = .ok (.if_icmp .ne 7, 3) := by decide +kernel
theorem dX0_isOnForm_23 : decode cX0_isOnForm 23 = .ok (.iconst 1, 1) := by decide +kernel
theorem dX0_isOnForm_24 : decode cX0_isOnForm 24 = .ok (.goto 4, 3) := by decide +kernel
theorem dX0_isOnForm_27 : decode cX0_isOnForm 27 = .ok (.iconst 0, 1) := by decide +kernel
theorem dX0_isOnForm_28 : decode cX0_isOnForm 28 = .ok (.ireturn, 1) := by decide +kernel
theorem dX1_init_0 : decode cX1_init 0 = .ok (.aload_n 0, 1) := by decide +kernel
theorem dX1_init_1 : decode cX1_init 1 = .ok (.invokespecial 3, 3) := by decide +kernel
theorem dX1_init_4 : decode cX1_init 4 = .ok (.aload_n 0, 1) := by decide +kernel
theorem dX1_init_5 : decode cX1_init 5 = .ok (.iload_n 1, 1) := by decide +kernel
theorem dX1_init_6 : decode cX1_init 6 = .ok (.putfield 9, 3) := by decide +kernel
theorem dX1_init_9 : decode cX1_init 9 = .ok (.aload_n 0, 1) := by decide +kernel
theorem dX1_init_10 : decode cX1_init 10 = .ok (.iload_n 2, 1) := by decide +kernel
theorem dX1_init_11 : decode cX1_init 11 = .ok (.iconst 1, 1) := by decide +kernel
theorem dX1_init_12 : decode cX1_init 12 = .ok (.if_icmp .ne 7, 3) := by decide +kernel
theorem dX1_init_15 : decode cX1_init 15 = .ok (.iconst 1, 1) := by decide +kernel
theorem dX1_init_16 : decode cX1_init 16 = .ok (.goto 4, 3) := by decide +kernel
theorem dX1_init_19 : decode cX1_init 19 = .ok (.iconst 0, 1) := by decide +kernel
theorem dX1_init_20 : decode cX1_init 20 = .ok (.putfield 15, 3) := by decide +kernel
theorem dX1_init_23 : decode cX1_init 23 = .ok (.aload_n 0, 1) := by decide +kernel
theorem dX1_init_24 : decode cX1_init 24 = .ok (.iload_n 3, 1) := by decide +kernel
theorem dX1_init_25 : decode cX1_init 25 = .ok (.putfield 19, 3) := by decide +kernel
theorem dX1_init_28 : decode cX1_init 28 = .ok (.aload_n 0, 1) := by decide +kernel
theorem dX1_init_29 : decode cX1_init 29 = .ok (.aload_n 0, 1) := by decide +kernel
theorem dX1_init_30 : decode cX1_init 30 = .ok (.getfield 15, 3) := by decide +kernel
theorem dX1_init_33 : decode cX1_init 33 = .ok (.ifCond .eq 12, 3) := by decide +kernel
theorem dX1_init_36 : decode cX1_init 36 = .ok (.iload_n 1, 1) := by decide +kernel
theorem dX1_init_37 : decode cX1_init 37 = .ok (.lload 4, 2) := by decide +kernel
theorem dX1_init_39 : decode cX1_init 39 = .ok (.invokestatic 22, 3) := by decide +kernel
theorem dX1_init_42 : decode cX1_init 42 = .ok (.goto 10, 3) := by decide +kernel
theorem dX1_init_45 : decode cX1_init 45 = .ok (.lload 4, 2) := by decide +kernel
theorem dX1_init_47 : decode cX1_init 47 = .ok (.iload_n 1, 1) := by decide +kernel
theorem dX1_init_48 : decode cX1_init 48 = .ok (.invokestatic 28, 3) := by decide +kernel
theorem dX1_init_51 : decode cX1_init 51 = .ok (.land, 1) := by decide +kernel
theorem dX1_init_52 : decode cX1_init 52 = .ok (.putfield 32, 3) := by decide +kernel
theorem dX1_init_55 : decode cX1_init 55 = .ok (.return_, 1) := by decide +kernel
theorem dX1_isAsking_0 : decode cX1_isAsking 0 = .ok (.iload_n 0, 1) := by decide +kernel
theorem dX1_isAsking_1 : decode cX1_isAsking 1 = .ok (.invokestatic 36, 3) := by decide +kernel
theorem dX1_isAsking_4 : decode cX1_isAsking 4 = .ok (.ifCond .eq 21, 3) := by decide +kernel
theorem dX1_isAsking_7 : decode cX1_isAsking 7 = .ok (.iload_n 1, 1) := by decide +kernel
theorem dX1_isAsking_8 : decode cX1_isAsking 8 = .ok (.ifCond .lt 17, 3) := by decide +kernel
theorem dX1_isAsking_11 : decode cX1_isAsking 11 = .ok (.iload_n 1, 1) := by decide +kernel
theorem dX1_isAsking_12 : decode cX1_isAsking 12 = .ok (.iconst 1, 1) := by decide +kernel
theorem dX1_isAsking_13 : decode cX1_isAsking 13 = .ok (.if_icmp .gt 12, 3) := by decide +kernel
theorem dX1_isAsking_16 : decode cX1_isAsking 16 = .ok (.iload_n 2, 1) := by decide +kernel
theorem dX1_isAsking_17 : decode cX1_isAsking 17 = .ok (.ifCond .lt 8, 3) := by decide +kernel
theorem dX1_isAsking_20 : decode cX1_isAsking 20 = .ok (.iload_n 2, 1) := by decide +kernel
theorem dX1_isAsking_21 : decode cX1_isAsking 21 = .ok (.iconst 5, 1) := by decide +kernel
theorem dX1_isAsking_22 : decode cX1_isAsking 22 = .ok (.if_icmp .le 5, 3) := by decide +kernel
theorem dX1_isAsking_25 : decode cX1_isAsking 25 = .ok (.iconst 0, 1) := by decide +kernel
theorem dX1_isAsking_26 : decode cX1_isAsking 26 = .ok (.ireturn, 1) := by decide +kernel
theorem dX1_isAsking_27 : decode cX1_isAsking 27 = .ok (.iload_n 0, 1) := by decide +kernel
theorem dX1_isAsking_28 : decode cX1_isAsking 28 = .ok (.lload_n 3, 1) := by decide +kernel
theorem dX1_isAsking_29 : decode cX1_isAsking 29 = .ok (.invokestatic 22, 3) := by decide +kernel
theorem dX1_isAsking_32 : decode cX1_isAsking 32 = .ok (.lstore 5, 2) := by decide +kernel
theorem dX1_isAsking_34 : decode cX1_isAsking 34 = .ok (.iload_n 2, 1) := by decide +kernel
theorem dX1_isAsking_35 : decode cX1_isAsking 35 = .ok (.iconst 1, 1) := by decide +kernel
theorem dX1_isAsking_36 : decode cX1_isAsking 36 = .ok (.if_icmp .eq 8, 3) := by decide +kernel
theorem dX1_isAsking_39 : decode cX1_isAsking 39 = .ok (.iload_n 2, 1) := by decide +kernel
theorem dX1_isAsking_40 : decode cX1_isAsking 40 = .ok (.iconst 3, 1) := by decide +kernel
theorem dX1_isAsking_41 : decode cX1_isAsking 41 = .ok (.if_icmp .ne 7, 3) := by decide +kernel
theorem dX1_isAsking_44 : decode cX1_isAsking 44 = .ok (.iconst 1, 1) := by decide +kernel
theorem dX1_isAsking_45 : decode cX1_isAsking 45 = .ok (.goto 4, 3) := by decide +kernel
theorem dX1_isAsking_48 : decode cX1_isAsking 48 = .ok (.iconst 0, 1) := by decide +kernel
theorem dX1_isAsking_49 : decode cX1_isAsking 49 = .ok (.istore 7, 2) := by decide +kernel
theorem dX1_isAsking_51 : decode cX1_isAsking 51 = .ok (.lload 5, 2) := by decide +kernel
theorem dX1_isAsking_53 : decode cX1_isAsking 53 = .ok (.lconst 0, 1) := by decide +kernel
theorem dX1_isAsking_54 : decode cX1_isAsking 54 = .ok (.lcmp, 1) := by decide +kernel
theorem dX1_isAsking_55 : decode cX1_isAsking 55 = .ok (.ifCond .eq 23, 3) := by decide +kernel
theorem dX1_isAsking_58 : decode cX1_isAsking 58 = .ok (.iload_n 1, 1) := by decide +kernel
theorem dX1_isAsking_59 : decode cX1_isAsking 59 = .ok (.ifCond .eq 15, 3) := by decide +kernel
theorem dX1_isAsking_62 : decode cX1_isAsking 62 = .ok (.iload 7, 2) := by decide +kernel
theorem dX1_isAsking_64 : decode cX1_isAsking 64 = .ok (.ifCond .eq 10, 3) := by decide +kernel
theorem dX1_isAsking_67 : decode cX1_isAsking 67 = .ok (.lload 5, 2) := by decide +kernel
theorem dX1_isAsking_69 : decode cX1_isAsking 69 = .ok (.lconst 0, 1) := by decide +kernel
theorem dX1_isAsking_70 : decode cX1_isAsking 70 = .ok (.lcmp, 1) := by decide +kernel
theorem dX1_isAsking_71 : decode cX1_isAsking 71 = .ok (.ifCond .le 7, 3) := by decide +kernel
theorem dX1_isAsking_74 : decode cX1_isAsking 74 = .ok (.iconst 1, 1) := by decide +kernel
theorem dX1_isAsking_75 : decode cX1_isAsking 75 = .ok (.goto 4, 3) := by decide +kernel
theorem dX1_isAsking_78 : decode cX1_isAsking 78 = .ok (.iconst 0, 1) := by decide +kernel
theorem dX1_isAsking_79 : decode cX1_isAsking 79 = .ok (.ireturn, 1) := by decide +kernel
theorem dX1_asksOf_0 : decode cX1_asksOf 0 = .ok (.aload_n 0, 1) := by decide +kernel
theorem dX1_asksOf_1 : decode cX1_asksOf 1 = .ok (.lload_n 1, 1) := by decide +kernel
theorem dX1_asksOf_2 : decode cX1_asksOf 2 = .ok (.invokevirtual 40, 3) := by decide +kernel
theorem dX1_asksOf_5 : decode cX1_asksOf 5 = .ok (.lstore_n 3, 1) := by decide +kernel
theorem dX1_asksOf_6 : decode cX1_asksOf 6 = .ok (.aload_n 0, 1) := by decide +kernel
theorem dX1_asksOf_7 : decode cX1_asksOf 7 = .ok (.getfield 19, 3) := by decide +kernel
theorem dX1_asksOf_10 : decode cX1_asksOf 10 = .ok (.iconst 5, 1) := by decide +kernel
theorem dX1_asksOf_11 : decode cX1_asksOf 11 = .ok (.if_icmp .ne 18, 3) := by decide +kernel
theorem dX1_asksOf_14 : decode cX1_asksOf 14 = .ok (.lload_n 3, 1) := by decide +kernel
theorem dX1_asksOf_15 : decode cX1_asksOf 15 = .ok (.aload_n 0, 1) := by decide +kernel
theorem dX1_asksOf_16 : decode cX1_asksOf 16 = .ok (.lload_n 3, 1) := by decide +kernel
theorem dX1_asksOf_17 : decode cX1_asksOf 17 = .ok (.invokevirtual 44, 3) := by decide +kernel
theorem dX1_asksOf_20 : decode cX1_asksOf 20 = .ok (.aload_n 0, 1) := by decide +kernel
theorem dX1_asksOf_21 : decode cX1_asksOf 21 = .ok (.getfield 32, 3) := by decide +kernel
theorem dX1_asksOf_24 : decode cX1_asksOf 24 = .ok (.lmul, 1) := by decide +kernel
theorem dX1_asksOf_25 : decode cX1_asksOf 25 = .ok (.lcmp, 1) := by decide +kernel
theorem dX1_asksOf_26 : decode cX1_asksOf 26 = .ok (.ifCond .ne 7, 3) := by decide +kernel
theorem dX1_asksOf_29 : decode cX1_asksOf 29 = .ok (.iconst 1, 1) := by decide +kernel
theorem dX1_asksOf_30 : decode cX1_asksOf 30 = .ok (.goto 4, 3) := by decide +kernel
theorem dX1_asksOf_33 : decode cX1_asksOf 33 = .ok (.iconst 0, 1) := by decide +kernel
theorem dX1_asksOf_34 : decode cX1_asksOf 34 = .ok (.ireturn, 1) := by decide +kernel
theorem dX1_answer_0 : decode cX1_answer 0 = .ok (.aload_n 0, 1) := by decide +kernel
theorem dX1_answer_1 : decode cX1_answer 1 = .ok (.lload_n 1, 1) := by decide +kernel
theorem dX1_answer_2 : decode cX1_answer 2 = .ok (.invokevirtual 40, 3) := by decide +kernel
theorem dX1_answer_5 : decode cX1_answer 5 = .ok (.lstore_n 3, 1) := by decide +kernel
theorem dX1_answer_6 : decode cX1_answer 6 = .ok (.aload_n 0, 1) := by decide +kernel
theorem dX1_answer_7 : decode cX1_answer 7 = .ok (.lload_n 3, 1) := by decide +kernel
theorem dX1_answer_8 : decode cX1_answer 8 = .ok (.invokevirtual 44, 3) := by decide +kernel
theorem dX1_answer_11 : decode cX1_answer 11 = .ok (.lstore 5, 2) := by decide +kernel
theorem dX1_answer_13 : decode cX1_answer 13 = .ok (.lload_n 3, 1) := by decide +kernel
theorem dX1_answer_14 : decode cX1_answer 14 = .ok (.lload 5, 2) := by decide +kernel
theorem dX1_answer_16 : decode cX1_answer 16 = .ok (.aload_n 0, 1) := by decide +kernel
theorem dX1_answer_17 : decode cX1_answer 17 = .ok (.getfield 32, 3) := by decide +kernel
theorem dX1_answer_20 : decode cX1_answer 20 = .ok (.lmul, 1) := by decide +kernel
theorem dX1_answer_21 : decode cX1_answer 21 = .ok (.lsub, 1) := by decide +kernel
theorem dX1_answer_22 : decode cX1_answer 22 = .ok (.lstore 7, 2) := by decide +kernel
theorem dX1_answer_24 : decode cX1_answer 24 = .ok (.aload_n 0, 1) := by decide +kernel
theorem dX1_answer_25 : decode cX1_answer 25 = .ok (.getfield 15, 3) := by decide +kernel
theorem dX1_answer_28 : decode cX1_answer 28 = .ok (.ifCond .eq 41, 3) := by decide +kernel
theorem dX1_answer_31 : decode cX1_answer 31 = .ok (.lload 7, 2) := by decide +kernel
theorem dX1_answer_33 : decode cX1_answer 33 = .ok (.lconst 0, 1) := by decide +kernel
theorem dX1_answer_34 : decode cX1_answer 34 = .ok (.lcmp, 1) := by decide +kernel
theorem dX1_answer_35 : decode cX1_answer 35 = .ok (.ifCond .ge 34, 3) := by decide +kernel
theorem dX1_answer_38 : decode cX1_answer 38 = .ok (.aload_n 0, 1) := by decide +kernel
theorem dX1_answer_39 : decode cX1_answer 39 = .ok (.getfield 19, 3) := by decide +kernel
theorem dX1_answer_42 : decode cX1_answer 42 = .ok (.iconst 1, 1) := by decide +kernel
theorem dX1_answer_43 : decode cX1_answer 43 = .ok (.if_icmp .eq 11, 3) := by decide +kernel
theorem dX1_answer_46 : decode cX1_answer 46 = .ok (.aload_n 0, 1) := by decide +kernel
theorem dX1_answer_47 : decode cX1_answer 47 = .ok (.getfield 19, 3) := by decide +kernel
theorem dX1_answer_50 : decode cX1_answer 50 = .ok (.iconst 3, 1) := by decide +kernel
theorem dX1_answer_51 : decode cX1_answer 51 = .ok (.if_icmp .ne 18, 3) := by decide +kernel
theorem dX1_answer_54 : decode cX1_answer 54 = .ok (.lload 5, 2) := by decide +kernel
theorem dX1_answer_56 : decode cX1_answer 56 = .ok (.lconst 1, 1) := by decide +kernel
theorem dX1_answer_57 : decode cX1_answer 57 = .ok (.lsub, 1) := by decide +kernel
theorem dX1_answer_58 : decode cX1_answer 58 = .ok (.lstore 5, 2) := by decide +kernel
theorem dX1_answer_60 : decode cX1_answer 60 = .ok (.lload 7, 2) := by decide +kernel
theorem dX1_answer_62 : decode cX1_answer 62 = .ok (.aload_n 0, 1) := by decide +kernel
theorem dX1_answer_63 : decode cX1_answer 63 = .ok (.getfield 32, 3) := by decide +kernel
theorem dX1_answer_66 : decode cX1_answer 66 = .ok (.ladd, 1) := by decide +kernel
theorem dX1_answer_67 : decode cX1_answer 67 = .ok (.lstore 7, 2) := by decide +kernel
theorem dX1_answer_69 : decode cX1_answer 69 = .ok (.aload_n 0, 1) := by decide +kernel
theorem dX1_answer_70 : decode cX1_answer 70 = .ok (.getfield 19, 3) := by decide +kernel
theorem dX1_answer_73 : decode cX1_answer 73 = .ok (.tableswitch 51 2 4 #[27, 27, 38], 27) := by decide +kernel
theorem dX1_answer_100 : decode cX1_answer 100 = .ok (.lload 7, 2) := by decide +kernel
theorem dX1_answer_102 : decode cX1_answer 102 = .ok (.aload_n 0, 1) := by decide +kernel
theorem dX1_answer_103 : decode cX1_answer 103 = .ok (.getfield 9, 3) := by decide +kernel
theorem dX1_answer_106 : decode cX1_answer 106 = .ok (.invokestatic 28, 3) := by decide +kernel
theorem dX1_answer_109 : decode cX1_answer 109 = .ok (.land, 1) := by decide +kernel
theorem dX1_answer_110 : decode cX1_answer 110 = .ok (.lreturn, 1) := by decide +kernel
theorem dX1_answer_111 : decode cX1_answer 111 = .ok (.lload 7, 2) := by decide +kernel
theorem dX1_answer_113 : decode cX1_answer 113 = .ok (.lconst 0, 1) := by decide +kernel
theorem dX1_answer_114 : decode cX1_answer 114 = .ok (.lcmp, 1) := by decide +kernel
theorem dX1_answer_115 : decode cX1_answer 115 = .ok (.ifCond .ne 7, 3) := by decide +kernel
theorem dX1_answer_118 : decode cX1_answer 118 = .ok (.lconst 1, 1) := by decide +kernel
theorem dX1_answer_119 : decode cX1_answer 119 = .ok (.goto 4, 3) := by decide +kernel
theorem dX1_answer_122 : decode cX1_answer 122 = .ok (.lconst 0, 1) := by decide +kernel
theorem dX1_answer_123 : decode cX1_answer 123 = .ok (.lreturn, 1) := by decide +kernel
theorem dX1_answer_124 : decode cX1_answer 124 = .ok (.lload 5, 2) := by decide +kernel
theorem dX1_answer_126 : decode cX1_answer 126 = .ok (.aload_n 0, 1) := by decide +kernel
theorem dX1_answer_127 : decode cX1_answer 127 = .ok (.getfield 9, 3) := by decide +kernel
theorem dX1_answer_130 : decode cX1_answer 130 = .ok (.invokestatic 28, 3) := by decide +kernel
theorem dX1_answer_133 : decode cX1_answer 133 = .ok (.land, 1) := by decide +kernel
theorem dX1_answer_134 : decode cX1_answer 134 = .ok (.lreturn, 1) := by decide +kernel
theorem dX1_numberOf_0 : decode cX1_numberOf 0 = .ok (.aload_n 0, 1) := by decide +kernel
theorem dX1_numberOf_1 : decode cX1_numberOf 1 = .ok (.getfield 15, 3) := by decide +kernel
theorem dX1_numberOf_4 : decode cX1_numberOf 4 = .ok (.ifCond .eq 14, 3) := by decide +kernel
theorem dX1_numberOf_7 : decode cX1_numberOf 7 = .ok (.aload_n 0, 1) := by decide +kernel
theorem dX1_numberOf_8 : decode cX1_numberOf 8 = .ok (.getfield 9, 3) := by decide +kernel
theorem dX1_numberOf_11 : decode cX1_numberOf 11 = .ok (.lload_n 1, 1) := by decide +kernel
theorem dX1_numberOf_12 : decode cX1_numberOf 12 = .ok (.invokestatic 22, 3) := by decide +kernel
theorem dX1_numberOf_15 : decode cX1_numberOf 15 = .ok (.goto 12, 3) := by decide +kernel
theorem dX1_numberOf_18 : decode cX1_numberOf 18 = .ok (.lload_n 1, 1) := by decide +kernel
theorem dX1_numberOf_19 : decode cX1_numberOf 19 = .ok (.aload_n 0, 1) := by decide +kernel
theorem dX1_numberOf_20 : decode cX1_numberOf 20 = .ok (.getfield 9, 3) := by decide +kernel
theorem dX1_numberOf_23 : decode cX1_numberOf 23 = .ok (.invokestatic 28, 3) := by decide +kernel
theorem dX1_numberOf_26 : decode cX1_numberOf 26 = .ok (.land, 1) := by decide +kernel
theorem dX1_numberOf_27 : decode cX1_numberOf 27 = .ok (.lreturn, 1) := by decide +kernel
theorem dX1_towardsZero_0 : decode cX1_towardsZero 0 = .ok (.aload_n 0, 1) := by decide +kernel
theorem dX1_towardsZero_1 : decode cX1_towardsZero 1 = .ok (.getfield 32, 3) := by decide +kernel
theorem dX1_towardsZero_4 : decode cX1_towardsZero 4 = .ok (.lconst 0, 1) := by decide +kernel
theorem dX1_towardsZero_5 : decode cX1_towardsZero 5 = .ok (.lcmp, 1) := by decide +kernel
theorem dX1_towardsZero_6 : decode cX1_towardsZero 6 = .ok (.ifCond .ne 5, 3) := by decide +kernel
theorem dX1_towardsZero_9 : decode cX1_towardsZero 9 = .ok (.lconst 0, 1) := by decide +kernel
theorem dX1_towardsZero_10 : decode cX1_towardsZero 10 = .ok (.lreturn, 1) := by decide +kernel
theorem dX1_towardsZero_11 : decode cX1_towardsZero 11 = .ok (.aload_n 0, 1) := by decide +kernel
theorem dX1_towardsZero_12 : decode cX1_towardsZero 12 = .ok (.getfield 15, 3) := by decide +kernel
theorem dX1_towardsZero_15 : decode cX1_towardsZero 15 = .ok (.ifCond .eq 12, 3) := by decide +kernel
theorem dX1_towardsZero_18 : decode cX1_towardsZero 18 = .ok (.lload_n 1, 1) := by decide +kernel
theorem dX1_towardsZero_19 : decode cX1_towardsZero 19 = .ok (.aload_n 0, 1) := by decide +kernel
theorem dX1_towardsZero_20 : decode cX1_towardsZero 20 = .ok (.getfield 32, 3) := by decide +kernel
theorem dX1_towardsZero_23 : decode cX1_towardsZero 23 = .ok (.ldiv, 1) := by decide +kernel
theorem dX1_towardsZero_24 : decode cX1_towardsZero 24 = .ok (.goto 11, 3) := by decide +kernel
theorem dX1_towardsZero_27 : decode cX1_towardsZero 27 = .ok (.lload_n 1, 1) := by decide +kernel
theorem dX1_towardsZero_28 : decode cX1_towardsZero 28 = .ok (.aload_n 0, 1) := by decide +kernel
theorem dX1_towardsZero_29 : decode cX1_towardsZero 29 = .ok (.getfield 32, 3) := by decide +kernel
theorem dX1_towardsZero_32 : decode cX1_towardsZero 32 = .ok (.invokestatic 47, 3) := by decide +kernel
theorem dX1_towardsZero_35 : decode cX1_towardsZero 35 = .ok (.lreturn, 1) := by decide +kernel
theorem dX2_isWidth_0 : decode cX2_isWidth 0 = .ok (.iload_n 0, 1) := by decide +kernel
theorem dX2_isWidth_1 : decode cX2_isWidth 1 = .ok (.bipush 8, 2) := by decide +kernel
theorem dX2_isWidth_3 : decode cX2_isWidth 3 = .ok (.if_icmp .eq 21, 3) := by decide +kernel
theorem dX2_isWidth_6 : decode cX2_isWidth 6 = .ok (.iload_n 0, 1) := by decide +kernel
theorem dX2_isWidth_7 : decode cX2_isWidth 7 = .ok (.bipush 16, 2) := by decide +kernel
theorem dX2_isWidth_9 : decode cX2_isWidth 9 = .ok (.if_icmp .eq 15, 3) := by decide +kernel
theorem dX2_isWidth_12 : decode cX2_isWidth 12 = .ok (.iload_n 0, 1) := by decide +kernel
theorem dX2_isWidth_13 : decode cX2_isWidth 13 = .ok (.bipush 32, 2) := by decide +kernel
theorem dX2_isWidth_15 : decode cX2_isWidth 15 = .ok (.if_icmp .eq 9, 3) := by decide +kernel
theorem dX2_isWidth_18 : decode cX2_isWidth 18 = .ok (.iload_n 0, 1) := by decide +kernel
theorem dX2_isWidth_19 : decode cX2_isWidth 19 = .ok (.bipush 64, 2) := by decide +kernel
theorem dX2_isWidth_21 : decode cX2_isWidth 21 = .ok (.if_icmp .ne 7, 3) := by decide +kernel
theorem dX2_isWidth_24 : decode cX2_isWidth 24 = .ok (.iconst 1, 1) := by decide +kernel
theorem dX2_isWidth_25 : decode cX2_isWidth 25 = .ok (.goto 4, 3) := by decide +kernel
theorem dX2_isWidth_28 : decode cX2_isWidth 28 = .ok (.iconst 0, 1) := by decide +kernel
theorem dX2_isWidth_29 : decode cX2_isWidth 29 = .ok (.ireturn, 1) := by decide +kernel
theorem dX2_mask_0 : decode cX2_mask 0 = .ok (.ldc2_w 7, 3) := by decide +kernel
theorem dX2_mask_3 : decode cX2_mask 3 = .ok (.bipush 64, 2) := by decide +kernel
theorem dX2_mask_5 : decode cX2_mask 5 = .ok (.iload_n 0, 1) := by decide +kernel
theorem dX2_mask_6 : decode cX2_mask 6 = .ok (.isub, 1) := by decide +kernel
theorem dX2_mask_7 : decode cX2_mask 7 = .ok (.lushr, 1) := by decide +kernel
theorem dX2_mask_8 : decode cX2_mask 8 = .ok (.lreturn, 1) := by decide +kernel
theorem dX2_signedOf_0 : decode cX2_signedOf 0 = .ok (.lload_n 1, 1) := by decide +kernel
theorem dX2_signedOf_1 : decode cX2_signedOf 1 = .ok (.bipush 64, 2) := by decide +kernel
theorem dX2_signedOf_3 : decode cX2_signedOf 3 = .ok (.iload_n 0, 1) := by decide +kernel
theorem dX2_signedOf_4 : decode cX2_signedOf 4 = .ok (.isub, 1) := by decide +kernel
theorem dX2_signedOf_5 : decode cX2_signedOf 5 = .ok (.lshl, 1) := by decide +kernel
theorem dX2_signedOf_6 : decode cX2_signedOf 6 = .ok (.bipush 64, 2) := by decide +kernel
theorem dX2_signedOf_8 : decode cX2_signedOf 8 = .ok (.iload_n 0, 1) := by decide +kernel
theorem dX2_signedOf_9 : decode cX2_signedOf 9 = .ok (.isub, 1) := by decide +kernel
theorem dX2_signedOf_10 : decode cX2_signedOf 10 = .ok (.lshr, 1) := by decide +kernel
theorem dX2_signedOf_11 : decode cX2_signedOf 11 = .ok (.lreturn, 1) := by decide +kernel
theorem dX2_below_0 : decode cX2_below 0 = .ok (.lload_n 0, 1) := by decide +kernel
theorem dX2_below_1 : decode cX2_below 1 = .ok (.ldc2_w 11, 3) := by decide +kernel
theorem dX2_below_4 : decode cX2_below 4 = .ok (.lxor, 1) := by decide +kernel
theorem dX2_below_5 : decode cX2_below 5 = .ok (.lload_n 2, 1) := by decide +kernel
theorem dX2_below_6 : decode cX2_below 6 = .ok (.ldc2_w 11, 3) := by decide +kernel
theorem dX2_below_9 : decode cX2_below 9 = .ok (.lxor, 1) := by decide +kernel
theorem dX2_below_10 : decode cX2_below 10 = .ok (.lcmp, 1) := by decide +kernel
theorem dX2_below_11 : decode cX2_below 11 = .ok (.ifCond .ge 7, 3) := by decide +kernel
theorem dX2_below_14 : decode cX2_below 14 = .ok (.iconst 1, 1) := by decide +kernel
theorem dX2_below_15 : decode cX2_below 15 = .ok (.goto 4, 3) := by decide +kernel
theorem dX2_below_18 : decode cX2_below 18 = .ok (.iconst 0, 1) := by decide +kernel
theorem dX2_below_19 : decode cX2_below 19 = .ok (.ireturn, 1) := by decide +kernel
theorem dX2_quotient_0 : decode cX2_quotient 0 = .ok (.lload_n 2, 1) := by decide +kernel
theorem dX2_quotient_1 : decode cX2_quotient 1 = .ok (.lconst 0, 1) := by decide +kernel
theorem dX2_quotient_2 : decode cX2_quotient 2 = .ok (.lcmp, 1) := by decide +kernel
theorem dX2_quotient_3 : decode cX2_quotient 3 = .ok (.ifCond .ne 5, 3) := by decide +kernel
theorem dX2_quotient_6 : decode cX2_quotient 6 = .ok (.lconst 0, 1) := by decide +kernel
theorem dX2_quotient_7 : decode cX2_quotient 7 = .ok (.lreturn, 1) := by decide +kernel
theorem dX2_quotient_8 : decode cX2_quotient 8 = .ok (.lload_n 2, 1) := by decide +kernel
theorem dX2_quotient_9 : decode cX2_quotient 9 = .ok (.lconst 0, 1) := by decide +kernel
theorem dX2_quotient_10 : decode cX2_quotient 10 = .ok (.lcmp, 1) := by decide +kernel
theorem dX2_quotient_11 : decode cX2_quotient 11 = .ok (.ifCond .ge 17, 3) := by decide +kernel
theorem dX2_quotient_14 : decode cX2_quotient 14 = .ok (.lload_n 0, 1) := by decide +kernel
theorem dX2_quotient_15 : decode cX2_quotient 15 = .ok (.lload_n 2, 1) := by decide +kernel
theorem dX2_quotient_16 : decode cX2_quotient 16 = .ok (.invokestatic 13, 3) := by decide +kernel
theorem dX2_quotient_19 : decode cX2_quotient 19 = .ok (.ifCond .eq 7, 3) := by decide +kernel
theorem dX2_quotient_22 : decode cX2_quotient 22 = .ok (.lconst 0, 1) := by decide +kernel
theorem dX2_quotient_23 : decode cX2_quotient 23 = .ok (.goto 4, 3) := by decide +kernel
theorem dX2_quotient_26 : decode cX2_quotient 26 = .ok (.lconst 1, 1) := by decide +kernel
theorem dX2_quotient_27 : decode cX2_quotient 27 = .ok (.lreturn, 1) := by decide +kernel
theorem dX2_quotient_28 : decode cX2_quotient 28 = .ok (.lload_n 0, 1) := by decide +kernel
theorem dX2_quotient_29 : decode cX2_quotient 29 = .ok (.lconst 0, 1) := by decide +kernel
theorem dX2_quotient_30 : decode cX2_quotient 30 = .ok (.lcmp, 1) := by decide +kernel
theorem dX2_quotient_31 : decode cX2_quotient 31 = .ok (.ifCond .lt 7, 3) := by decide +kernel
theorem dX2_quotient_34 : decode cX2_quotient 34 = .ok (.lload_n 0, 1) := by decide +kernel
theorem dX2_quotient_35 : decode cX2_quotient 35 = .ok (.lload_n 2, 1) := by decide +kernel
theorem dX2_quotient_36 : decode cX2_quotient 36 = .ok (.ldiv, 1) := by decide +kernel
theorem dX2_quotient_37 : decode cX2_quotient 37 = .ok (.lreturn, 1) := by decide +kernel
theorem dX2_quotient_38 : decode cX2_quotient 38 = .ok (.lload_n 0, 1) := by decide +kernel
theorem dX2_quotient_39 : decode cX2_quotient 39 = .ok (.iconst 1, 1) := by decide +kernel
theorem dX2_quotient_40 : decode cX2_quotient 40 = .ok (.lushr, 1) := by decide +kernel
theorem dX2_quotient_41 : decode cX2_quotient 41 = .ok (.lload_n 2, 1) := by decide +kernel
theorem dX2_quotient_42 : decode cX2_quotient 42 = .ok (.ldiv, 1) := by decide +kernel
theorem dX2_quotient_43 : decode cX2_quotient 43 = .ok (.iconst 1, 1) := by decide +kernel
theorem dX2_quotient_44 : decode cX2_quotient 44 = .ok (.lshl, 1) := by decide +kernel
theorem dX2_quotient_45 : decode cX2_quotient 45 = .ok (.lstore 4, 2) := by decide +kernel
theorem dX2_quotient_47 : decode cX2_quotient 47 = .ok (.lload_n 0, 1) := by decide +kernel
theorem dX2_quotient_48 : decode cX2_quotient 48 = .ok (.lload 4, 2) := by decide +kernel
theorem dX2_quotient_50 : decode cX2_quotient 50 = .ok (.lload_n 2, 1) := by decide +kernel
theorem dX2_quotient_51 : decode cX2_quotient 51 = .ok (.lmul, 1) := by decide +kernel
theorem dX2_quotient_52 : decode cX2_quotient 52 = .ok (.lsub, 1) := by decide +kernel
theorem dX2_quotient_53 : decode cX2_quotient 53 = .ok (.lload_n 2, 1) := by decide +kernel
theorem dX2_quotient_54 : decode cX2_quotient 54 = .ok (.invokestatic 13, 3) := by decide +kernel
theorem dX2_quotient_57 : decode cX2_quotient 57 = .ok (.ifCond .eq 8, 3) := by decide +kernel
theorem dX2_quotient_60 : decode cX2_quotient 60 = .ok (.lload 4, 2) := by decide +kernel
theorem dX2_quotient_62 : decode cX2_quotient 62 = .ok (.goto 7, 3) := by decide +kernel
theorem dX2_quotient_65 : decode cX2_quotient 65 = .ok (.lload 4, 2) := by decide +kernel
theorem dX2_quotient_67 : decode cX2_quotient 67 = .ok (.lconst 1, 1) := by decide +kernel
theorem dX2_quotient_68 : decode cX2_quotient 68 = .ok (.ladd, 1) := by decide +kernel
theorem dX2_quotient_69 : decode cX2_quotient 69 = .ok (.lreturn, 1) := by decide +kernel
theorem dX2_highPlain_0 : decode cX2_highPlain 0 = .ok (.iload_n 0, 1) := by decide +kernel
theorem dX2_highPlain_1 : decode cX2_highPlain 1 = .ok (.bipush 64, 2) := by decide +kernel
theorem dX2_highPlain_3 : decode cX2_highPlain 3 = .ok (.if_icmp .ne 11, 3) := by decide +kernel
theorem dX2_highPlain_6 : decode cX2_highPlain 6 = .ok (.lload_n 1, 1) := by decide +kernel
theorem dX2_highPlain_7 : decode cX2_highPlain 7 = .ok (.lload_n 3, 1) := by decide +kernel
theorem dX2_highPlain_8 : decode cX2_highPlain 8 = .ok (.invokestatic 19, 3) := by decide +kernel
theorem dX2_highPlain_11 : decode cX2_highPlain 11 = .ok (.goto 8, 3) := by decide +kernel
theorem dX2_highPlain_14 : decode cX2_highPlain 14 = .ok (.lload_n 1, 1) := by decide +kernel
theorem dX2_highPlain_15 : decode cX2_highPlain 15 = .ok (.lload_n 3, 1) := by decide +kernel
theorem dX2_highPlain_16 : decode cX2_highPlain 16 = .ok (.lmul, 1) := by decide +kernel
theorem dX2_highPlain_17 : decode cX2_highPlain 17 = .ok (.iload_n 0, 1) := by decide +kernel
theorem dX2_highPlain_18 : decode cX2_highPlain 18 = .ok (.lushr, 1) := by decide +kernel
theorem dX2_highPlain_19 : decode cX2_highPlain 19 = .ok (.lreturn, 1) := by decide +kernel
theorem dX2_highSigned_0 : decode cX2_highSigned 0 = .ok (.iload_n 0, 1) := by decide +kernel
theorem dX2_highSigned_1 : decode cX2_highSigned 1 = .ok (.bipush 64, 2) := by decide +kernel
theorem dX2_highSigned_3 : decode cX2_highSigned 3 = .ok (.if_icmp .ge 22, 3) := by decide +kernel
theorem dX2_highSigned_6 : decode cX2_highSigned 6 = .ok (.iload_n 0, 1) := by decide +kernel
theorem dX2_highSigned_7 : decode cX2_highSigned 7 = .ok (.lload_n 1, 1) := by decide +kernel
theorem dX2_highSigned_8 : decode cX2_highSigned 8 = .ok (.invokestatic 23, 3) := by decide +kernel
theorem dX2_highSigned_11 : decode cX2_highSigned 11 = .ok (.iload_n 0, 1) := by decide +kernel
theorem dX2_highSigned_12 : decode cX2_highSigned 12 = .ok (.lload_n 3, 1) := by decide +kernel
theorem dX2_highSigned_13 : decode cX2_highSigned 13 = .ok (.invokestatic 23, 3) := by decide +kernel
theorem dX2_highSigned_16 : decode cX2_highSigned 16 = .ok (.lmul, 1) := by decide +kernel
theorem dX2_highSigned_17 : decode cX2_highSigned 17 = .ok (.iload_n 0, 1) := by decide +kernel
theorem dX2_highSigned_18 : decode cX2_highSigned 18 = .ok (.lshr, 1) := by decide +kernel
theorem dX2_highSigned_19 : decode cX2_highSigned 19 = .ok (.iload_n 0, 1) := by decide +kernel
theorem dX2_highSigned_20 : decode cX2_highSigned 20 = .ok (.invokestatic 27, 3) := by decide +kernel
theorem dX2_highSigned_23 : decode cX2_highSigned 23 = .ok (.land, 1) := by decide +kernel
theorem dX2_highSigned_24 : decode cX2_highSigned 24 = .ok (.lreturn, 1) := by decide +kernel
theorem dX2_highSigned_25 : decode cX2_highSigned 25 = .ok (.lload_n 1, 1) := by decide +kernel
theorem dX2_highSigned_26 : decode cX2_highSigned 26 = .ok (.lload_n 3, 1) := by decide +kernel
theorem dX2_highSigned_27 : decode cX2_highSigned 27 = .ok (.invokestatic 19, 3) := by decide +kernel
theorem dX2_highSigned_30 : decode cX2_highSigned 30 = .ok (.lload_n 1, 1) := by decide +kernel
theorem dX2_highSigned_31 : decode cX2_highSigned 31 = .ok (.lconst 0, 1) := by decide +kernel
theorem dX2_highSigned_32 : decode cX2_highSigned 32 = .ok (.lcmp, 1) := by decide +kernel
theorem dX2_highSigned_33 : decode cX2_highSigned 33 = .ok (.ifCond .ge 7, 3) := by decide +kernel
theorem dX2_highSigned_36 : decode cX2_highSigned 36 = .ok (.lload_n 3, 1) := by decide +kernel
theorem dX2_highSigned_37 : decode cX2_highSigned 37 = .ok (.goto 4, 3) := by decide +kernel
theorem dX2_highSigned_40 : decode cX2_highSigned 40 = .ok (.lconst 0, 1) := by decide +kernel
theorem dX2_highSigned_41 : decode cX2_highSigned 41 = .ok (.lsub, 1) := by decide +kernel
theorem dX2_highSigned_42 : decode cX2_highSigned 42 = .ok (.lload_n 3, 1) := by decide +kernel
theorem dX2_highSigned_43 : decode cX2_highSigned 43 = .ok (.lconst 0, 1) := by decide +kernel
theorem dX2_highSigned_44 : decode cX2_highSigned 44 = .ok (.lcmp, 1) := by decide +kernel
theorem dX2_highSigned_45 : decode cX2_highSigned 45 = .ok (.ifCond .ge 7, 3) := by decide +kernel
theorem dX2_highSigned_48 : decode cX2_highSigned 48 = .ok (.lload_n 1, 1) := by decide +kernel
theorem dX2_highSigned_49 : decode cX2_highSigned 49 = .ok (.goto 4, 3) := by decide +kernel
theorem dX2_highSigned_52 : decode cX2_highSigned 52 = .ok (.lconst 0, 1) := by decide +kernel
theorem dX2_highSigned_53 : decode cX2_highSigned 53 = .ok (.lsub, 1) := by decide +kernel
theorem dX2_highSigned_54 : decode cX2_highSigned 54 = .ok (.lreturn, 1) := by decide +kernel
theorem dX2_highOf64_0 : decode cX2_highOf64 0 = .ok (.ldc2_w 31, 3) := by decide +kernel
theorem dX2_highOf64_3 : decode cX2_highOf64 3 = .ok (.lstore 4, 2) := by decide +kernel
theorem dX2_highOf64_5 : decode cX2_highOf64 5 = .ok (.lload_n 0, 1) := by decide +kernel
theorem dX2_highOf64_6 : decode cX2_highOf64 6 = .ok (.lload 4, 2) := by decide +kernel
theorem dX2_highOf64_8 : decode cX2_highOf64 8 = .ok (.land, 1) := by decide +kernel
theorem dX2_highOf64_9 : decode cX2_highOf64 9 = .ok (.lstore 6, 2) := by decide +kernel
theorem dX2_highOf64_11 : decode cX2_highOf64 11 = .ok (.lload_n 0, 1) := by decide +kernel
theorem dX2_highOf64_12 : decode cX2_highOf64 12 = .ok (.bipush 32, 2) := by decide +kernel
theorem dX2_highOf64_14 : decode cX2_highOf64 14 = .ok (.lushr, 1) := by decide +kernel
theorem dX2_highOf64_15 : decode cX2_highOf64 15 = .ok (.lstore 8, 2) := by decide +kernel
theorem dX2_highOf64_17 : decode cX2_highOf64 17 = .ok (.lload_n 2, 1) := by decide +kernel
theorem dX2_highOf64_18 : decode cX2_highOf64 18 = .ok (.lload 4, 2) := by decide +kernel
theorem dX2_highOf64_20 : decode cX2_highOf64 20 = .ok (.land, 1) := by decide +kernel
theorem dX2_highOf64_21 : decode cX2_highOf64 21 = .ok (.lstore 10, 2) := by decide +kernel
theorem dX2_highOf64_23 : decode cX2_highOf64 23 = .ok (.lload_n 2, 1) := by decide +kernel
theorem dX2_highOf64_24 : decode cX2_highOf64 24 = .ok (.bipush 32, 2) := by decide +kernel
theorem dX2_highOf64_26 : decode cX2_highOf64 26 = .ok (.lushr, 1) := by decide +kernel
theorem dX2_highOf64_27 : decode cX2_highOf64 27 = .ok (.lstore 12, 2) := by decide +kernel
theorem dX2_highOf64_29 : decode cX2_highOf64 29 = .ok (.lload 8, 2) := by decide +kernel
theorem dX2_highOf64_31 : decode cX2_highOf64 31 = .ok (.lload 10, 2) := by decide +kernel
theorem dX2_highOf64_33 : decode cX2_highOf64 33 = .ok (.lmul, 1) := by decide +kernel
theorem dX2_highOf64_34 : decode cX2_highOf64 34 = .ok (.lload 6, 2) := by decide +kernel
theorem dX2_highOf64_36 : decode cX2_highOf64 36 = .ok (.lload 10, 2) := by decide +kernel
theorem dX2_highOf64_38 : decode cX2_highOf64 38 = .ok (.lmul, 1) := by decide +kernel
theorem dX2_highOf64_39 : decode cX2_highOf64 39 = .ok (.bipush 32, 2) := by decide +kernel
theorem dX2_highOf64_41 : decode cX2_highOf64 41 = .ok (.lushr, 1) := by decide +kernel
theorem dX2_highOf64_42 : decode cX2_highOf64 42 = .ok (.ladd, 1) := by decide +kernel
theorem dX2_highOf64_43 : decode cX2_highOf64 43 = .ok (.lstore 14, 2) := by decide +kernel
theorem dX2_highOf64_45 : decode cX2_highOf64 45 = .ok (.lload 6, 2) := by decide +kernel
theorem dX2_highOf64_47 : decode cX2_highOf64 47 = .ok (.lload 12, 2) := by decide +kernel
theorem dX2_highOf64_49 : decode cX2_highOf64 49 = .ok (.lmul, 1) := by decide +kernel
theorem dX2_highOf64_50 : decode cX2_highOf64 50 = .ok (.lload 14, 2) := by decide +kernel
theorem dX2_highOf64_52 : decode cX2_highOf64 52 = .ok (.lload 4, 2) := by decide +kernel
theorem dX2_highOf64_54 : decode cX2_highOf64 54 = .ok (.land, 1) := by decide +kernel
theorem dX2_highOf64_55 : decode cX2_highOf64 55 = .ok (.ladd, 1) := by decide +kernel
theorem dX2_highOf64_56 : decode cX2_highOf64 56 = .ok (.lstore 16, 2) := by decide +kernel
theorem dX2_highOf64_58 : decode cX2_highOf64 58 = .ok (.lload 8, 2) := by decide +kernel
theorem dX2_highOf64_60 : decode cX2_highOf64 60 = .ok (.lload 12, 2) := by decide +kernel
theorem dX2_highOf64_62 : decode cX2_highOf64 62 = .ok (.lmul, 1) := by decide +kernel
theorem dX2_highOf64_63 : decode cX2_highOf64 63 = .ok (.lload 14, 2) := by decide +kernel
theorem dX2_highOf64_65 : decode cX2_highOf64 65 = .ok (.bipush 32, 2) := by decide +kernel
theorem dX2_highOf64_67 : decode cX2_highOf64 67 = .ok (.lushr, 1) := by decide +kernel
theorem dX2_highOf64_68 : decode cX2_highOf64 68 = .ok (.ladd, 1) := by decide +kernel
theorem dX2_highOf64_69 : decode cX2_highOf64 69 = .ok (.lload 16, 2) := by decide +kernel
theorem dX2_highOf64_71 : decode cX2_highOf64 71 = .ok (.bipush 32, 2) := by decide +kernel
theorem dX2_highOf64_73 : decode cX2_highOf64 73 = .ok (.lushr, 1) := by decide +kernel
theorem dX2_highOf64_74 : decode cX2_highOf64 74 = .ok (.ladd, 1) := by decide +kernel
theorem dX2_highOf64_75 : decode cX2_highOf64 75 = .ok (.lreturn, 1) := by decide +kernel
theorem dX2_inverseOf_0 : decode cX2_inverseOf 0 = .ok (.lload_n 1, 1) := by decide +kernel
theorem dX2_inverseOf_1 : decode cX2_inverseOf 1 = .ok (.lstore_n 3, 1) := by decide +kernel
theorem dX2_inverseOf_2 : decode cX2_inverseOf 2 = .ok (.iconst 3, 1) := by decide +kernel
theorem dX2_inverseOf_3 : decode cX2_inverseOf 3 = .ok (.istore 5, 2) := by decide +kernel
theorem dX2_inverseOf_5 : decode cX2_inverseOf 5 = .ok (.iload 5, 2) := by decide +kernel
theorem dX2_inverseOf_7 : decode cX2_inverseOf 7 = .ok (.iload_n 0, 1) := by decide +kernel
theorem dX2_inverseOf_8 : decode cX2_inverseOf 8 = .ok (.if_icmp .ge 22, 3) := by decide +kernel
theorem dX2_inverseOf_11 : decode cX2_inverseOf 11 = .ok (.lload_n 3, 1) := by decide +kernel
theorem dX2_inverseOf_12 : decode cX2_inverseOf 12 = .ok (.ldc2_w 33, 3) := by decide +kernel
theorem dX2_inverseOf_15 : decode cX2_inverseOf 15 = .ok (.lload_n 1, 1) := by decide +kernel
theorem dX2_inverseOf_16 : decode cX2_inverseOf 16 = .ok (.lload_n 3, 1) := by decide +kernel
theorem dX2_inverseOf_17 : decode cX2_inverseOf 17 = .ok (.lmul, 1) := by decide +kernel
theorem dX2_inverseOf_18 : decode cX2_inverseOf 18 = .ok (.lsub, 1) := by decide +kernel
theorem dX2_inverseOf_19 : decode cX2_inverseOf 19 = .ok (.lmul, 1) := by decide +kernel
theorem dX2_inverseOf_20 : decode cX2_inverseOf 20 = .ok (.lstore_n 3, 1) := by decide +kernel
theorem dX2_inverseOf_21 : decode cX2_inverseOf 21 = .ok (.iload 5, 2) := by decide +kernel
theorem dX2_inverseOf_23 : decode cX2_inverseOf 23 = .ok (.iconst 2, 1) := by decide +kernel
theorem dX2_inverseOf_24 : decode cX2_inverseOf 24 = .ok (.imul, 1) := by decide +kernel
theorem dX2_inverseOf_25 : decode cX2_inverseOf 25 = .ok (.istore 5, 2) := by decide +kernel
theorem dX2_inverseOf_27 : decode cX2_inverseOf 27 = .ok (.goto (-22), 3) := by decide +kernel
theorem dX2_inverseOf_30 : decode cX2_inverseOf 30 = .ok (.lload_n 3, 1) := by decide +kernel
theorem dX2_inverseOf_31 : decode cX2_inverseOf 31 = .ok (.iload_n 0, 1) := by decide +kernel
theorem dX2_inverseOf_32 : decode cX2_inverseOf 32 = .ok (.invokestatic 27, 3) := by decide +kernel
theorem dX2_inverseOf_35 : decode cX2_inverseOf 35 = .ok (.land, 1) := by decide +kernel
theorem dX2_inverseOf_36 : decode cX2_inverseOf 36 = .ok (.lreturn, 1) := by decide +kernel
theorem dX3_init_0 : decode cX3_init 0 = .ok (.aload_n 0, 1) := by decide +kernel
theorem dX3_init_1 : decode cX3_init 1 = .ok (.invokespecial 3, 3) := by decide +kernel
theorem dX3_init_4 : decode cX3_init 4 = .ok (.aload_n 0, 1) := by decide +kernel
theorem dX3_init_5 : decode cX3_init 5 = .ok (.bipush 12, 2) := by decide +kernel
theorem dX3_init_7 : decode cX3_init 7 = .ok (.newarray .int, 2) := by decide +kernel
theorem dX3_init_9 : decode cX3_init 9 = .ok (.putfield 9, 3) := by decide +kernel
theorem dX3_init_12 : decode cX3_init 12 = .ok (.aload_n 0, 1) := by decide +kernel
theorem dX3_init_13 : decode cX3_init 13 = .ok (.bipush 12, 2) := by decide +kernel
theorem dX3_init_15 : decode cX3_init 15 = .ok (.newarray .int, 2) := by decide +kernel
theorem dX3_init_17 : decode cX3_init 17 = .ok (.putfield 15, 3) := by decide +kernel
theorem dX3_init_20 : decode cX3_init 20 = .ok (.aload_n 0, 1) := by decide +kernel
theorem dX3_init_21 : decode cX3_init 21 = .ok (.bipush 12, 2) := by decide +kernel
theorem dX3_init_23 : decode cX3_init 23 = .ok (.newarray .long, 2) := by decide +kernel
theorem dX3_init_25 : decode cX3_init 25 = .ok (.putfield 18, 3) := by decide +kernel
theorem dX3_init_28 : decode cX3_init 28 = .ok (.return_, 1) := by decide +kernel
theorem dX3_begin_0 : decode cX3_begin 0 = .ok (.aload_n 0, 1) := by decide +kernel
theorem dX3_begin_1 : decode cX3_begin 1 = .ok (.iload_n 1, 1) := by decide +kernel
theorem dX3_begin_2 : decode cX3_begin 2 = .ok (.putfield 22, 3) := by decide +kernel
theorem dX3_begin_5 : decode cX3_begin 5 = .ok (.aload_n 0, 1) := by decide +kernel
theorem dX3_begin_6 : decode cX3_begin 6 = .ok (.iconst 0, 1) := by decide +kernel
theorem dX3_begin_7 : decode cX3_begin 7 = .ok (.putfield 26, 3) := by decide +kernel
theorem dX3_begin_10 : decode cX3_begin 10 = .ok (.return_, 1) := by decide +kernel
theorem dX3_hasStep_0 : decode cX3_hasStep 0 = .ok (.iload_n 1, 1) := by decide +kernel
theorem dX3_hasStep_1 : decode cX3_hasStep 1 = .ok (.ifCond .lt 15, 3) := by decide +kernel
theorem dX3_hasStep_4 : decode cX3_hasStep 4 = .ok (.iload_n 1, 1) := by decide +kernel
theorem dX3_hasStep_5 : decode cX3_hasStep 5 = .ok (.aload_n 0, 1) := by decide +kernel
theorem dX3_hasStep_6 : decode cX3_hasStep 6 = .ok (.getfield 26, 3) := by decide +kernel
theorem dX3_hasStep_9 : decode cX3_hasStep 9 = .ok (.if_icmp .ge 7, 3) := by decide +kernel
theorem dX3_hasStep_12 : decode cX3_hasStep 12 = .ok (.iconst 1, 1) := by decide +kernel
theorem dX3_hasStep_13 : decode cX3_hasStep 13 = .ok (.goto 4, 3) := by decide +kernel
theorem dX3_hasStep_16 : decode cX3_hasStep 16 = .ok (.iconst 0, 1) := by decide +kernel
theorem dX3_hasStep_17 : decode cX3_hasStep 17 = .ok (.ireturn, 1) := by decide +kernel
theorem dX3_add_0 : decode cX3_add 0 = .ok (.aload_n 0, 1) := by decide +kernel
theorem dX3_add_1 : decode cX3_add 1 = .ok (.getfield 26, 3) := by decide +kernel
theorem dX3_add_4 : decode cX3_add 4 = .ok (.bipush 12, 2) := by decide +kernel
theorem dX3_add_6 : decode cX3_add 6 = .ok (.if_icmp .ge 43, 3) := by decide +kernel
theorem dX3_add_9 : decode cX3_add 9 = .ok (.aload_n 0, 1) := by decide +kernel
theorem dX3_add_10 : decode cX3_add 10 = .ok (.getfield 9, 3) := by decide +kernel
theorem dX3_add_13 : decode cX3_add 13 = .ok (.aload_n 0, 1) := by decide +kernel
theorem dX3_add_14 : decode cX3_add 14 = .ok (.getfield 26, 3) := by decide +kernel
theorem dX3_add_17 : decode cX3_add 17 = .ok (.iload_n 1, 1) := by decide +kernel
theorem dX3_add_18 : decode cX3_add 18 = .ok (.iastore, 1) := by decide +kernel
theorem dX3_add_19 : decode cX3_add 19 = .ok (.aload_n 0, 1) := by decide +kernel
theorem dX3_add_20 : decode cX3_add 20 = .ok (.getfield 15, 3) := by decide +kernel
theorem dX3_add_23 : decode cX3_add 23 = .ok (.aload_n 0, 1) := by decide +kernel
theorem dX3_add_24 : decode cX3_add 24 = .ok (.getfield 26, 3) := by decide +kernel
theorem dX3_add_27 : decode cX3_add 27 = .ok (.iload_n 2, 1) := by decide +kernel
theorem dX3_add_28 : decode cX3_add 28 = .ok (.iastore, 1) := by decide +kernel
theorem dX3_add_29 : decode cX3_add 29 = .ok (.aload_n 0, 1) := by decide +kernel
theorem dX3_add_30 : decode cX3_add 30 = .ok (.getfield 18, 3) := by decide +kernel
theorem dX3_add_33 : decode cX3_add 33 = .ok (.aload_n 0, 1) := by decide +kernel
theorem dX3_add_34 : decode cX3_add 34 = .ok (.getfield 26, 3) := by decide +kernel
theorem dX3_add_37 : decode cX3_add 37 = .ok (.lload_n 3, 1) := by decide +kernel
theorem dX3_add_38 : decode cX3_add 38 = .ok (.lastore, 1) := by decide +kernel
theorem dX3_add_39 : decode cX3_add 39 = .ok (.aload_n 0, 1) := by decide +kernel
theorem dX3_add_40 : decode cX3_add 40 = .ok (.dup, 1) := by decide +kernel
theorem dX3_add_41 : decode cX3_add 41 = .ok (.getfield 26, 3) := by decide +kernel
theorem dX3_add_44 : decode cX3_add 44 = .ok (.iconst 1, 1) := by decide +kernel
theorem dX3_add_45 : decode cX3_add 45 = .ok (.iadd, 1) := by decide +kernel
theorem dX3_add_46 : decode cX3_add 46 = .ok (.putfield 26, 3) := by decide +kernel
theorem dX3_add_49 : decode cX3_add 49 = .ok (.aload_n 0, 1) := by decide +kernel
theorem dX3_add_50 : decode cX3_add 50 = .ok (.getfield 26, 3) := by decide +kernel
theorem dX3_add_53 : decode cX3_add 53 = .ok (.ireturn, 1) := by decide +kernel
theorem dX3_removeLast_0 : decode cX3_removeLast 0 = .ok (.aload_n 0, 1) := by decide +kernel
theorem dX3_removeLast_1 : decode cX3_removeLast 1 = .ok (.getfield 26, 3) := by decide +kernel
theorem dX3_removeLast_4 : decode cX3_removeLast 4 = .ok (.ifCond .le 13, 3) := by decide +kernel
theorem dX3_removeLast_7 : decode cX3_removeLast 7 = .ok (.aload_n 0, 1) := by decide +kernel
theorem dX3_removeLast_8 : decode cX3_removeLast 8 = .ok (.dup, 1) := by decide +kernel
theorem dX3_removeLast_9 : decode cX3_removeLast 9 = .ok (.getfield 26, 3) := by decide +kernel
theorem dX3_removeLast_12 : decode cX3_removeLast 12 = .ok (.iconst 1, 1) := by decide +kernel
theorem dX3_removeLast_13 : decode cX3_removeLast 13 = .ok (.isub, 1) := by decide +kernel
theorem dX3_removeLast_14 : decode cX3_removeLast 14 = .ok (.putfield 26, 3) := by decide +kernel
theorem dX3_removeLast_17 : decode cX3_removeLast 17 = .ok (.return_, 1) := by decide +kernel
theorem dX3_work_0 : decode cX3_work 0 = .ok (.aload 4, 2) := by decide +kernel
theorem dX3_work_2 : decode cX3_work 2 = .ok (.iconst 0, 1) := by decide +kernel
theorem dX3_work_3 : decode cX3_work 3 = .ok (.lload_n 1, 1) := by decide +kernel
theorem dX3_work_4 : decode cX3_work 4 = .ok (.aload_n 0, 1) := by decide +kernel
theorem dX3_work_5 : decode cX3_work 5 = .ok (.getfield 22, 3) := by decide +kernel
theorem dX3_work_8 : decode cX3_work 8 = .ok (.invokestatic 29, 3) := by decide +kernel
theorem dX3_work_11 : decode cX3_work 11 = .ok (.land, 1) := by decide +kernel
theorem dX3_work_12 : decode cX3_work 12 = .ok (.lastore, 1) := by decide +kernel
theorem dX3_work_13 : decode cX3_work 13 = .ok (.iconst 0, 1) := by decide +kernel
theorem dX3_work_14 : decode cX3_work 14 = .ok (.istore 5, 2) := by decide +kernel
theorem dX3_work_16 : decode cX3_work 16 = .ok (.iload 5, 2) := by decide +kernel
theorem dX3_work_18 : decode cX3_work 18 = .ok (.iload_n 3, 1) := by decide +kernel
theorem dX3_work_19 : decode cX3_work 19 = .ok (.if_icmp .ge 78, 3) := by decide +kernel
theorem dX3_work_22 : decode cX3_work 22 = .ok (.aload_n 0, 1) := by decide +kernel
theorem dX3_work_23 : decode cX3_work 23 = .ok (.getfield 9, 3) := by decide +kernel
theorem dX3_work_26 : decode cX3_work 26 = .ok (.iload 5, 2) := by decide +kernel
theorem dX3_work_28 : decode cX3_work 28 = .ok (.iaload, 1) := by decide +kernel
theorem dX3_work_29 : decode cX3_work 29 = .ok (.invokestatic 35, 3) := by decide +kernel
theorem dX3_work_32 : decode cX3_work 32 = .ok (.ifCond .eq 17, 3) := by decide +kernel
theorem dX3_work_35 : decode cX3_work 35 = .ok (.aload 4, 2) := by decide +kernel
theorem dX3_work_37 : decode cX3_work 37 = .ok (.aload_n 0, 1) := by decide +kernel
theorem dX3_work_38 : decode cX3_work 38 = .ok (.getfield 18, 3) := by decide +kernel
theorem dX3_work_41 : decode cX3_work 41 = .ok (.iload 5, 2) := by decide +kernel
theorem dX3_work_43 : decode cX3_work 43 = .ok (.laload, 1) := by decide +kernel
theorem dX3_work_44 : decode cX3_work 44 = .ok (.l2i, 1) := by decide +kernel
theorem dX3_work_45 : decode cX3_work 45 = .ok (.laload, 1) := by decide +kernel
theorem dX3_work_46 : decode cX3_work 46 = .ok (.goto 10, 3) := by decide +kernel
theorem dX3_work_49 : decode cX3_work 49 = .ok (.aload_n 0, 1) := by decide +kernel
theorem dX3_work_50 : decode cX3_work 50 = .ok (.getfield 18, 3) := by decide +kernel
theorem dX3_work_53 : decode cX3_work 53 = .ok (.iload 5, 2) := by decide +kernel
theorem dX3_work_55 : decode cX3_work 55 = .ok (.laload, 1) := by decide +kernel
theorem dX3_work_56 : decode cX3_work 56 = .ok (.lstore 6, 2) := by decide +kernel
theorem dX3_work_58 : decode cX3_work 58 = .ok (.aload 4, 2) := by decide +kernel
theorem dX3_work_60 : decode cX3_work 60 = .ok (.iload 5, 2) := by decide +kernel
theorem dX3_work_62 : decode cX3_work 62 = .ok (.iconst 1, 1) := by decide +kernel
theorem dX3_work_63 : decode cX3_work 63 = .ok (.iadd, 1) := by decide +kernel
theorem dX3_work_64 : decode cX3_work 64 = .ok (.aload_n 0, 1) := by decide +kernel
theorem dX3_work_65 : decode cX3_work 65 = .ok (.getfield 22, 3) := by decide +kernel
theorem dX3_work_68 : decode cX3_work 68 = .ok (.aload_n 0, 1) := by decide +kernel
theorem dX3_work_69 : decode cX3_work 69 = .ok (.getfield 9, 3) := by decide +kernel
theorem dX3_work_72 : decode cX3_work 72 = .ok (.iload 5, 2) := by decide +kernel
theorem dX3_work_74 : decode cX3_work 74 = .ok (.iaload, 1) := by decide +kernel
theorem dX3_work_75 : decode cX3_work 75 = .ok (.aload 4, 2) := by decide +kernel
theorem dX3_work_77 : decode cX3_work 77 = .ok (.aload_n 0, 1) := by decide +kernel
theorem dX3_work_78 : decode cX3_work 78 = .ok (.getfield 15, 3) := by decide +kernel
theorem dX3_work_81 : decode cX3_work 81 = .ok (.iload 5, 2) := by decide +kernel
theorem dX3_work_83 : decode cX3_work 83 = .ok (.iaload, 1) := by decide +kernel
theorem dX3_work_84 : decode cX3_work 84 = .ok (.laload, 1) := by decide +kernel
theorem dX3_work_85 : decode cX3_work 85 = .ok (.lload 6, 2) := by decide +kernel
theorem dX3_work_87 : decode cX3_work 87 = .ok (.invokestatic 41, 3) := by decide +kernel
theorem dX3_work_90 : decode cX3_work 90 = .ok (.lastore, 1) := by decide +kernel
theorem dX3_work_91 : decode cX3_work 91 = .ok (.iinc 5 1, 3) := by decide +kernel
theorem dX3_work_94 : decode cX3_work 94 = .ok (.goto (-78), 3) := by decide +kernel
theorem dX3_work_97 : decode cX3_work 97 = .ok (.return_, 1) := by decide +kernel
theorem dX4_init_0 : decode cX4_init 0 = .ok (.aload_n 0, 1) := by decide +kernel
theorem dX4_init_1 : decode cX4_init 1 = .ok (.invokespecial 3, 3) := by decide +kernel
theorem dX4_init_4 : decode cX4_init 4 = .ok (.aload_n 0, 1) := by decide +kernel
theorem dX4_init_5 : decode cX4_init 5 = .ok (.bipush 50, 2) := by decide +kernel
theorem dX4_init_7 : decode cX4_init 7 = .ok (.anewarray 9, 3) := by decide +kernel
theorem dX4_init_10 : decode cX4_init 10 = .ok (.putfield 11, 3) := by decide +kernel
theorem dX4_init_13 : decode cX4_init 13 = .ok (.return_, 1) := by decide +kernel
theorem dX4_add_0 : decode cX4_add 0 = .ok (.aload_n 0, 1) := by decide +kernel
theorem dX4_add_1 : decode cX4_add 1 = .ok (.getfield 17, 3) := by decide +kernel
theorem dX4_add_4 : decode cX4_add 4 = .ok (.bipush 50, 2) := by decide +kernel
theorem dX4_add_6 : decode cX4_add 6 = .ok (.if_icmp .ne 41, 3) := by decide +kernel
theorem dX4_add_9 : decode cX4_add 9 = .ok (.iconst 1, 1) := by decide +kernel
theorem dX4_add_10 : decode cX4_add 10 = .ok (.istore_n 2, 1) := by decide +kernel
theorem dX4_add_11 : decode cX4_add 11 = .ok (.iload_n 2, 1) := by decide +kernel
theorem dX4_add_12 : decode cX4_add 12 = .ok (.bipush 50, 2) := by decide +kernel
theorem dX4_add_14 : decode cX4_add 14 = .ok (.if_icmp .ge 23, 3) := by decide +kernel
theorem dX4_add_17 : decode cX4_add 17 = .ok (.aload_n 0, 1) := by decide +kernel
theorem dX4_add_18 : decode cX4_add 18 = .ok (.getfield 11, 3) := by decide +kernel
theorem dX4_add_21 : decode cX4_add 21 = .ok (.iload_n 2, 1) := by decide +kernel
theorem dX4_add_22 : decode cX4_add 22 = .ok (.iconst 1, 1) := by decide +kernel
theorem dX4_add_23 : decode cX4_add 23 = .ok (.isub, 1) := by decide +kernel
theorem dX4_add_24 : decode cX4_add 24 = .ok (.aload_n 0, 1) := by decide +kernel
theorem dX4_add_25 : decode cX4_add 25 = .ok (.getfield 11, 3) := by decide +kernel
theorem dX4_add_28 : decode cX4_add 28 = .ok (.iload_n 2, 1) := by decide +kernel
theorem dX4_add_29 : decode cX4_add 29 = .ok (.aaload, 1) := by decide +kernel
theorem dX4_add_30 : decode cX4_add 30 = .ok (.aastore, 1) := by decide +kernel
theorem dX4_add_31 : decode cX4_add 31 = .ok (.iinc 2 1, 3) := by decide +kernel
theorem dX4_add_34 : decode cX4_add 34 = .ok (.goto (-23), 3) := by decide +kernel
theorem dX4_add_37 : decode cX4_add 37 = .ok (.aload_n 0, 1) := by decide +kernel
theorem dX4_add_38 : decode cX4_add 38 = .ok (.dup, 1) := by decide +kernel
theorem dX4_add_39 : decode cX4_add 39 = .ok (.getfield 17, 3) := by decide +kernel
theorem dX4_add_42 : decode cX4_add 42 = .ok (.iconst 1, 1) := by decide +kernel
theorem dX4_add_43 : decode cX4_add 43 = .ok (.isub, 1) := by decide +kernel
theorem dX4_add_44 : decode cX4_add 44 = .ok (.putfield 17, 3) := by decide +kernel
theorem dX4_add_47 : decode cX4_add 47 = .ok (.aload_n 0, 1) := by decide +kernel
theorem dX4_add_48 : decode cX4_add 48 = .ok (.getfield 11, 3) := by decide +kernel
theorem dX4_add_51 : decode cX4_add 51 = .ok (.aload_n 0, 1) := by decide +kernel
theorem dX4_add_52 : decode cX4_add 52 = .ok (.getfield 17, 3) := by decide +kernel
theorem dX4_add_55 : decode cX4_add 55 = .ok (.aload_n 1, 1) := by decide +kernel
theorem dX4_add_56 : decode cX4_add 56 = .ok (.aastore, 1) := by decide +kernel
theorem dX4_add_57 : decode cX4_add 57 = .ok (.aload_n 0, 1) := by decide +kernel
theorem dX4_add_58 : decode cX4_add 58 = .ok (.dup, 1) := by decide +kernel
theorem dX4_add_59 : decode cX4_add 59 = .ok (.getfield 17, 3) := by decide +kernel
theorem dX4_add_62 : decode cX4_add 62 = .ok (.iconst 1, 1) := by decide +kernel
theorem dX4_add_63 : decode cX4_add 63 = .ok (.iadd, 1) := by decide +kernel
theorem dX4_add_64 : decode cX4_add 64 = .ok (.putfield 17, 3) := by decide +kernel
theorem dX4_add_67 : decode cX4_add 67 = .ok (.return_, 1) := by decide +kernel
theorem dX4_takeLatest_0 : decode cX4_takeLatest 0 = .ok (.aload_n 0, 1) := by decide +kernel
theorem dX4_takeLatest_1 : decode cX4_takeLatest 1 = .ok (.getfield 17, 3) := by decide +kernel
theorem dX4_takeLatest_4 : decode cX4_takeLatest 4 = .ok (.ifCond .ne 5, 3) := by decide +kernel
theorem dX4_takeLatest_7 : decode cX4_takeLatest 7 = .ok (.aconst_null, 1) := by decide +kernel
theorem dX4_takeLatest_8 : decode cX4_takeLatest 8 = .ok (.areturn, 1) := by decide +kernel
theorem dX4_takeLatest_9 : decode cX4_takeLatest 9 = .ok (.aload_n 0, 1) := by decide +kernel
theorem dX4_takeLatest_10 : decode cX4_takeLatest 10 = .ok (.dup, 1) := by decide +kernel
theorem dX4_takeLatest_11 : decode cX4_takeLatest 11 = .ok (.getfield 17, 3) := by decide +kernel
theorem dX4_takeLatest_14 : decode cX4_takeLatest 14 = .ok (.iconst 1, 1) := by decide +kernel
theorem dX4_takeLatest_15 : decode cX4_takeLatest 15 = .ok (.isub, 1) := by decide +kernel
theorem dX4_takeLatest_16 : decode cX4_takeLatest 16 = .ok (.putfield 17, 3) := by decide +kernel
theorem dX4_takeLatest_19 : decode cX4_takeLatest 19 = .ok (.aload_n 0, 1) := by decide +kernel
theorem dX4_takeLatest_20 : decode cX4_takeLatest 20 = .ok (.getfield 11, 3) := by decide +kernel
theorem dX4_takeLatest_23 : decode cX4_takeLatest 23 = .ok (.aload_n 0, 1) := by decide +kernel
theorem dX4_takeLatest_24 : decode cX4_takeLatest 24 = .ok (.getfield 17, 3) := by decide +kernel
theorem dX4_takeLatest_27 : decode cX4_takeLatest 27 = .ok (.aaload, 1) := by decide +kernel
theorem dX4_takeLatest_28 : decode cX4_takeLatest 28 = .ok (.astore_n 1, 1) := by decide +kernel
theorem dX4_takeLatest_29 : decode cX4_takeLatest 29 = .ok (.aload_n 0, 1) := by decide +kernel
theorem dX4_takeLatest_30 : decode cX4_takeLatest 30 = .ok (.getfield 11, 3) := by decide +kernel
theorem dX4_takeLatest_33 : decode cX4_takeLatest 33 = .ok (.aload_n 0, 1) := by decide +kernel
theorem dX4_takeLatest_34 : decode cX4_takeLatest 34 = .ok (.getfield 17, 3) := by decide +kernel
theorem dX4_takeLatest_37 : decode cX4_takeLatest 37 = .ok (.aconst_null, 1) := by decide +kernel
theorem dX4_takeLatest_38 : decode cX4_takeLatest 38 = .ok (.aastore, 1) := by decide +kernel
theorem dX4_takeLatest_39 : decode cX4_takeLatest 39 = .ok (.aload_n 1, 1) := by decide +kernel
theorem dX4_takeLatest_40 : decode cX4_takeLatest 40 = .ok (.areturn, 1) := by decide +kernel
theorem dX4_forgetForm_0 : decode cX4_forgetForm 0 = .ok (.iconst 0, 1) := by decide +kernel
theorem dX4_forgetForm_1 : decode cX4_forgetForm 1 = .ok (.istore_n 2, 1) := by decide +kernel
theorem dX4_forgetForm_2 : decode cX4_forgetForm 2 = .ok (.iconst 0, 1) := by decide +kernel
theorem dX4_forgetForm_3 : decode cX4_forgetForm 3 = .ok (.istore_n 3, 1) := by decide +kernel
theorem dX4_forgetForm_4 : decode cX4_forgetForm 4 = .ok (.iload_n 3, 1) := by decide +kernel
theorem dX4_forgetForm_5 : decode cX4_forgetForm 5 = .ok (.aload_n 0, 1) := by decide +kernel
theorem dX4_forgetForm_6 : decode cX4_forgetForm 6 = .ok (.getfield 17, 3) := by decide +kernel
theorem dX4_forgetForm_9 : decode cX4_forgetForm 9 = .ok (.if_icmp .ge 37, 3) := by decide +kernel
theorem dX4_forgetForm_12 : decode cX4_forgetForm 12 = .ok (.aload_n 0, 1) := by decide +kernel
theorem dX4_forgetForm_13 : decode cX4_forgetForm 13 = .ok (.getfield 11, 3) := by decide +kernel
theorem dX4_forgetForm_16 : decode cX4_forgetForm 16 = .ok (.iload_n 3, 1) := by decide +kernel
theorem dX4_forgetForm_17 : decode cX4_forgetForm 17 = .ok (.aaload, 1) := by decide +kernel
theorem dX4_forgetForm_18 : decode cX4_forgetForm 18 = .ok (.astore 4, 2) := by decide +kernel
theorem dX4_forgetForm_20 : decode cX4_forgetForm 20 = .ok (.aload 4, 2) := by decide +kernel
theorem dX4_forgetForm_22 : decode cX4_forgetForm 22 = .ok (.iload_n 1, 1) := by decide +kernel
theorem dX4_forgetForm_23 : decode cX4_forgetForm 23 = .ok (.invokevirtual 21, 3) := by decide +kernel
theorem dX4_forgetForm_26 : decode cX4_forgetForm 26 = .ok (.ifCond .ne 14, 3) := by decide +kernel
theorem dX4_forgetForm_29 : decode cX4_forgetForm 29 = .ok (.aload_n 0, 1) := by decide +kernel
theorem dX4_forgetForm_30 : decode cX4_forgetForm 30 = .ok (.getfield 11, 3) := by decide +kernel
theorem dX4_forgetForm_33 : decode cX4_forgetForm 33 = .ok (.iload_n 2, 1) := by decide +kernel
theorem dX4_forgetForm_34 : decode cX4_forgetForm 34 = .ok (.aload 4, 2) := by decide +kernel
theorem dX4_forgetForm_36 : decode cX4_forgetForm 36 = .ok (.aastore, 1) := by decide +kernel
theorem dX4_forgetForm_37 : decode cX4_forgetForm 37 = .ok (.iinc 2 1, 3) := by decide +kernel
theorem dX4_forgetForm_40 : decode cX4_forgetForm 40 = .ok (.iinc 3 1, 3) := by decide +kernel
theorem dX4_forgetForm_43 : decode cX4_forgetForm 43 = .ok (.goto (-39), 3) := by decide +kernel
theorem dX4_forgetForm_46 : decode cX4_forgetForm 46 = .ok (.iload_n 2, 1) := by decide +kernel
theorem dX4_forgetForm_47 : decode cX4_forgetForm 47 = .ok (.istore_n 3, 1) := by decide +kernel
theorem dX4_forgetForm_48 : decode cX4_forgetForm 48 = .ok (.iload_n 3, 1) := by decide +kernel
theorem dX4_forgetForm_49 : decode cX4_forgetForm 49 = .ok (.aload_n 0, 1) := by decide +kernel
theorem dX4_forgetForm_50 : decode cX4_forgetForm 50 = .ok (.getfield 17, 3) := by decide +kernel
theorem dX4_forgetForm_53 : decode cX4_forgetForm 53 = .ok (.if_icmp .ge 16, 3) := by decide +kernel
theorem dX4_forgetForm_56 : decode cX4_forgetForm 56 = .ok (.aload_n 0, 1) := by decide +kernel
theorem dX4_forgetForm_57 : decode cX4_forgetForm 57 = .ok (.getfield 11, 3) := by decide +kernel
theorem dX4_forgetForm_60 : decode cX4_forgetForm 60 = .ok (.iload_n 3, 1) := by decide +kernel
theorem dX4_forgetForm_61 : decode cX4_forgetForm 61 = .ok (.aconst_null, 1) := by decide +kernel
theorem dX4_forgetForm_62 : decode cX4_forgetForm 62 = .ok (.aastore, 1) := by decide +kernel
theorem dX4_forgetForm_63 : decode cX4_forgetForm 63 = .ok (.iinc 3 1, 3) := by decide +kernel
theorem dX4_forgetForm_66 : decode cX4_forgetForm 66 = .ok (.goto (-18), 3) := by decide +kernel
theorem dX4_forgetForm_69 : decode cX4_forgetForm 69 = .ok (.aload_n 0, 1) := by decide +kernel
theorem dX4_forgetForm_70 : decode cX4_forgetForm 70 = .ok (.iload_n 2, 1) := by decide +kernel
theorem dX4_forgetForm_71 : decode cX4_forgetForm 71 = .ok (.putfield 17, 3) := by decide +kernel
theorem dX4_forgetForm_74 : decode cX4_forgetForm 74 = .ok (.return_, 1) := by decide +kernel
theorem dX5_init_0 : decode cX5_init 0 = .ok (.aload_n 0, 1) := by decide +kernel
theorem dX5_init_1 : decode cX5_init 1 = .ok (.invokespecial 1, 3) := by decide +kernel
theorem dX5_init_4 : decode cX5_init 4 = .ok (.aload_n 0, 1) := by decide +kernel
theorem dX5_init_5 : decode cX5_init 5 = .ok (.iload_n 1, 1) := by decide +kernel
theorem dX5_init_6 : decode cX5_init 6 = .ok (.putfield 7, 3) := by decide +kernel
theorem dX5_init_9 : decode cX5_init 9 = .ok (.aload_n 0, 1) := by decide +kernel
theorem dX5_init_10 : decode cX5_init 10 = .ok (.iload_n 2, 1) := by decide +kernel
theorem dX5_init_11 : decode cX5_init 11 = .ok (.putfield 13, 3) := by decide +kernel
theorem dX5_init_14 : decode cX5_init 14 = .ok (.aload_n 0, 1) := by decide +kernel
theorem dX5_init_15 : decode cX5_init 15 = .ok (.lload_n 3, 1) := by decide +kernel
theorem dX5_init_16 : decode cX5_init 16 = .ok (.putfield 16, 3) := by decide +kernel
theorem dX5_init_19 : decode cX5_init 19 = .ok (.aload_n 0, 1) := by decide +kernel
theorem dX5_init_20 : decode cX5_init 20 = .ok (.iload 5, 2) := by decide +kernel
theorem dX5_init_22 : decode cX5_init 22 = .ok (.ifCond .ge 7, 3) := by decide +kernel
theorem dX5_init_25 : decode cX5_init 25 = .ok (.iconst 0, 1) := by decide +kernel
theorem dX5_init_26 : decode cX5_init 26 = .ok (.goto 5, 3) := by decide +kernel
theorem dX5_init_29 : decode cX5_init 29 = .ok (.iload 5, 2) := by decide +kernel
theorem dX5_init_31 : decode cX5_init 31 = .ok (.newarray .long, 2) := by decide +kernel
theorem dX5_init_33 : decode cX5_init 33 = .ok (.putfield 20, 3) := by decide +kernel
theorem dX5_init_36 : decode cX5_init 36 = .ok (.return_, 1) := by decide +kernel
theorem dX5_multiplies_0 : decode cX5_multiplies 0 = .ok (.aload_n 0, 1) := by decide +kernel
theorem dX5_multiplies_1 : decode cX5_multiplies 1 = .ok (.getfield 13, 3) := by decide +kernel
theorem dX5_multiplies_4 : decode cX5_multiplies 4 = .ok (.iconst 2, 1) := by decide +kernel
theorem dX5_multiplies_5 : decode cX5_multiplies 5 = .ok (.if_icmp .lt 15, 3) := by decide +kernel
theorem dX5_multiplies_8 : decode cX5_multiplies 8 = .ok (.aload_n 0, 1) := by decide +kernel
theorem dX5_multiplies_9 : decode cX5_multiplies 9 = .ok (.getfield 13, 3) := by decide +kernel
theorem dX5_multiplies_12 : decode cX5_multiplies 12 = .ok (.iconst 4, 1) := by decide +kernel
theorem dX5_multiplies_13 : decode cX5_multiplies 13 = .ok (.if_icmp .gt 7, 3) := by decide +kernel
theorem dX5_multiplies_16 : decode cX5_multiplies 16 = .ok (.iconst 1, 1) := by decide +kernel
theorem dX5_multiplies_17 : decode cX5_multiplies 17 = .ok (.goto 4, 3) := by decide +kernel
theorem dX5_multiplies_20 : decode cX5_multiplies 20 = .ok (.iconst 0, 1) := by decide +kernel
theorem dX5_multiplies_21 : decode cX5_multiplies 21 = .ok (.ireturn, 1) := by decide +kernel
theorem dX5_hasPlace_0 : decode cX5_hasPlace 0 = .ok (.iload_n 1, 1) := by decide +kernel
theorem dX5_hasPlace_1 : decode cX5_hasPlace 1 = .ok (.ifCond .lt 16, 3) := by decide +kernel
theorem dX5_hasPlace_4 : decode cX5_hasPlace 4 = .ok (.iload_n 1, 1) := by decide +kernel
theorem dX5_hasPlace_5 : decode cX5_hasPlace 5 = .ok (.aload_n 0, 1) := by decide +kernel
theorem dX5_hasPlace_6 : decode cX5_hasPlace 6 = .ok (.getfield 20, 3) := by decide +kernel
theorem dX5_hasPlace_9 : decode cX5_hasPlace 9 = .ok (.arraylength, 1) := by decide +kernel
theorem dX5_hasPlace_10 : decode cX5_hasPlace 10 = .ok (.if_icmp .ge 7, 3) := by decide +kernel
theorem dX5_hasPlace_13 : decode cX5_hasPlace 13 = .ok (.iconst 1, 1) := by decide +kernel
theorem dX5_hasPlace_14 : decode cX5_hasPlace 14 = .ok (.goto 4, 3) := by decide +kernel
theorem dX5_hasPlace_17 : decode cX5_hasPlace 17 = .ok (.iconst 0, 1) := by decide +kernel
theorem dX5_hasPlace_18 : decode cX5_hasPlace 18 = .ok (.ireturn, 1) := by decide +kernel
theorem dX6_takesOperand_0 : decode cX6_takesOperand 0 = .ok (.iload_n 0, 1) := by decide +kernel
theorem dX6_takesOperand_1 : decode cX6_takesOperand 1 = .ok (.iconst 5, 1) := by decide +kernel
theorem dX6_takesOperand_2 : decode cX6_takesOperand 2 = .ok (.if_icmp .eq 21, 3) := by decide +kernel
theorem dX6_takesOperand_5 : decode cX6_takesOperand 5 = .ok (.iload_n 0, 1) := by decide +kernel
theorem dX6_takesOperand_6 : decode cX6_takesOperand 6 = .ok (.bipush 6, 2) := by decide +kernel
theorem dX6_takesOperand_8 : decode cX6_takesOperand 8 = .ok (.if_icmp .eq 15, 3) := by decide +kernel
theorem dX6_takesOperand_11 : decode cX6_takesOperand 11 = .ok (.iload_n 0, 1) := by decide +kernel
theorem dX6_takesOperand_12 : decode cX6_takesOperand 12 = .ok (.bipush 8, 2) := by decide +kernel
theorem dX6_takesOperand_14 : decode cX6_takesOperand 14 = .ok (.if_icmp .eq 9, 3) := by decide +kernel
theorem dX6_takesOperand_17 : decode cX6_takesOperand 17 = .ok (.iload_n 0, 1) := by decide +kernel
theorem dX6_takesOperand_18 : decode cX6_takesOperand 18 = .ok (.bipush 12, 2) := by decide +kernel
theorem dX6_takesOperand_20 : decode cX6_takesOperand 20 = .ok (.if_icmp .ne 7, 3) := by decide +kernel
theorem dX6_takesOperand_23 : decode cX6_takesOperand 23 = .ok (.iconst 1, 1) := by decide +kernel
theorem dX6_takesOperand_24 : decode cX6_takesOperand 24 = .ok (.goto 4, 3) := by decide +kernel
theorem dX6_takesOperand_27 : decode cX6_takesOperand 27 = .ok (.iconst 0, 1) := by decide +kernel
theorem dX6_takesOperand_28 : decode cX6_takesOperand 28 = .ok (.ireturn, 1) := by decide +kernel
theorem dX6_takesCount_0 : decode cX6_takesCount 0 = .ok (.iload_n 0, 1) := by decide +kernel
theorem dX6_takesCount_1 : decode cX6_takesCount 1 = .ok (.ifCond .eq 14, 3) := by decide +kernel
theorem dX6_takesCount_4 : decode cX6_takesCount 4 = .ok (.iload_n 0, 1) := by decide +kernel
theorem dX6_takesCount_5 : decode cX6_takesCount 5 = .ok (.iconst 1, 1) := by decide +kernel
theorem dX6_takesCount_6 : decode cX6_takesCount 6 = .ok (.if_icmp .eq 9, 3) := by decide +kernel
theorem dX6_takesCount_9 : decode cX6_takesCount 9 = .ok (.iload_n 0, 1) := by decide +kernel
theorem dX6_takesCount_10 : decode cX6_takesCount 10 = .ok (.bipush 10, 2) := by decide +kernel
theorem dX6_takesCount_12 : decode cX6_takesCount 12 = .ok (.if_icmp .ne 7, 3) := by decide +kernel
theorem dX6_takesCount_15 : decode cX6_takesCount 15 = .ok (.iconst 1, 1) := by decide +kernel
theorem dX6_takesCount_16 : decode cX6_takesCount 16 = .ok (.goto 4, 3) := by decide +kernel
theorem dX6_takesCount_19 : decode cX6_takesCount 19 = .ok (.iconst 0, 1) := by decide +kernel
theorem dX6_takesCount_20 : decode cX6_takesCount 20 = .ok (.ireturn, 1) := by decide +kernel
theorem dX6_apply_0 : decode cX6_apply 0 = .ok (.iload_n 1, 1) := by decide +kernel
theorem dX6_apply_1 : decode cX6_apply 1 = .ok (.tableswitch 205 0 12 #[67, 73, 88, 96, 104, 114, 124, 134, 144, 149, 154, 173, 188], 67) := by decide +kernel
theorem dX6_apply_68 : decode cX6_apply 68 = .ok (.lload_n 2, 1) := by decide +kernel
theorem dX6_apply_69 : decode cX6_apply 69 = .ok (.lload 4, 2) := by decide +kernel
theorem dX6_apply_71 : decode cX6_apply 71 = .ok (.l2i, 1) := by decide +kernel
theorem dX6_apply_72 : decode cX6_apply 72 = .ok (.lushr, 1) := by decide +kernel
theorem dX6_apply_73 : decode cX6_apply 73 = .ok (.lreturn, 1) := by decide +kernel
theorem dX6_apply_74 : decode cX6_apply 74 = .ok (.iload_n 0, 1) := by decide +kernel
theorem dX6_apply_75 : decode cX6_apply 75 = .ok (.lload_n 2, 1) := by decide +kernel
theorem dX6_apply_76 : decode cX6_apply 76 = .ok (.invokestatic 7, 3) := by decide +kernel
theorem dX6_apply_79 : decode cX6_apply 79 = .ok (.lload 4, 2) := by decide +kernel
theorem dX6_apply_81 : decode cX6_apply 81 = .ok (.l2i, 1) := by decide +kernel
theorem dX6_apply_82 : decode cX6_apply 82 = .ok (.lshr, 1) := by decide +kernel
theorem dX6_apply_83 : decode cX6_apply 83 = .ok (.iload_n 0, 1) := by decide +kernel
theorem dX6_apply_84 : decode cX6_apply 84 = .ok (.invokestatic 13, 3) := by decide +kernel
theorem dX6_apply_87 : decode cX6_apply 87 = .ok (.land, 1) := by decide +kernel
theorem dX6_apply_88 : decode cX6_apply 88 = .ok (.lreturn, 1) := by decide +kernel
theorem dX6_apply_89 : decode cX6_apply 89 = .ok (.iload_n 0, 1) := by decide +kernel
theorem dX6_apply_90 : decode cX6_apply 90 = .ok (.lload_n 2, 1) := by decide +kernel
theorem dX6_apply_91 : decode cX6_apply 91 = .ok (.lload 4, 2) := by decide +kernel
theorem dX6_apply_93 : decode cX6_apply 93 = .ok (.invokestatic 17, 3) := by decide +kernel
theorem dX6_apply_96 : decode cX6_apply 96 = .ok (.lreturn, 1) := by decide +kernel
theorem dX6_apply_97 : decode cX6_apply 97 = .ok (.iload_n 0, 1) := by decide +kernel
theorem dX6_apply_98 : decode cX6_apply 98 = .ok (.lload_n 2, 1) := by decide +kernel
theorem dX6_apply_99 : decode cX6_apply 99 = .ok (.lload 4, 2) := by decide +kernel
theorem dX6_apply_101 : decode cX6_apply 101 = .ok (.invokestatic 21, 3) := by decide +kernel
theorem dX6_apply_104 : decode cX6_apply 104 = .ok (.lreturn, 1) := by decide +kernel
theorem dX6_apply_105 : decode cX6_apply 105 = .ok (.lload_n 2, 1) := by decide +kernel
theorem dX6_apply_106 : decode cX6_apply 106 = .ok (.lload 4, 2) := by decide +kernel
theorem dX6_apply_108 : decode cX6_apply 108 = .ok (.lmul, 1) := by decide +kernel
theorem dX6_apply_109 : decode cX6_apply 109 = .ok (.iload_n 0, 1) := by decide +kernel
theorem dX6_apply_110 : decode cX6_apply 110 = .ok (.invokestatic 13, 3) := by decide +kernel
theorem dX6_apply_113 : decode cX6_apply 113 = .ok (.land, 1) := by decide +kernel
theorem dX6_apply_114 : decode cX6_apply 114 = .ok (.lreturn, 1) := by decide +kernel
theorem dX6_apply_115 : decode cX6_apply 115 = .ok (.lload_n 2, 1) := by decide +kernel
theorem dX6_apply_116 : decode cX6_apply 116 = .ok (.lload 4, 2) := by decide +kernel
theorem dX6_apply_118 : decode cX6_apply 118 = .ok (.ladd, 1) := by decide +kernel
theorem dX6_apply_119 : decode cX6_apply 119 = .ok (.iload_n 0, 1) := by decide +kernel
theorem dX6_apply_120 : decode cX6_apply 120 = .ok (.invokestatic 13, 3) := by decide +kernel
theorem dX6_apply_123 : decode cX6_apply 123 = .ok (.land, 1) := by decide +kernel
theorem dX6_apply_124 : decode cX6_apply 124 = .ok (.lreturn, 1) := by decide +kernel
theorem dX6_apply_125 : decode cX6_apply 125 = .ok (.lload_n 2, 1) := by decide +kernel
theorem dX6_apply_126 : decode cX6_apply 126 = .ok (.lload 4, 2) := by decide +kernel
theorem dX6_apply_128 : decode cX6_apply 128 = .ok (.lsub, 1) := by decide +kernel
theorem dX6_apply_129 : decode cX6_apply 129 = .ok (.iload_n 0, 1) := by decide +kernel
theorem dX6_apply_130 : decode cX6_apply 130 = .ok (.invokestatic 13, 3) := by decide +kernel
theorem dX6_apply_133 : decode cX6_apply 133 = .ok (.land, 1) := by decide +kernel
theorem dX6_apply_134 : decode cX6_apply 134 = .ok (.lreturn, 1) := by decide +kernel
theorem dX6_apply_135 : decode cX6_apply 135 = .ok (.lload 4, 2) := by decide +kernel
theorem dX6_apply_137 : decode cX6_apply 137 = .ok (.lload_n 2, 1) := by decide +kernel
theorem dX6_apply_138 : decode cX6_apply 138 = .ok (.lsub, 1) := by decide +kernel
theorem dX6_apply_139 : decode cX6_apply 139 = .ok (.iload_n 0, 1) := by decide +kernel
theorem dX6_apply_140 : decode cX6_apply 140 = .ok (.invokestatic 13, 3) := by decide +kernel
theorem dX6_apply_143 : decode cX6_apply 143 = .ok (.land, 1) := by decide +kernel
theorem dX6_apply_144 : decode cX6_apply 144 = .ok (.lreturn, 1) := by decide +kernel
theorem dX6_apply_145 : decode cX6_apply 145 = .ok (.lload_n 2, 1) := by decide +kernel
theorem dX6_apply_146 : decode cX6_apply 146 = .ok (.lload 4, 2) := by decide +kernel
theorem dX6_apply_148 : decode cX6_apply 148 = .ok (.lxor, 1) := by decide +kernel
theorem dX6_apply_149 : decode cX6_apply 149 = .ok (.lreturn, 1) := by decide +kernel
theorem dX6_apply_150 : decode cX6_apply 150 = .ok (.lload_n 2, 1) := by decide +kernel
theorem dX6_apply_151 : decode cX6_apply 151 = .ok (.lload 4, 2) := by decide +kernel
theorem dX6_apply_153 : decode cX6_apply 153 = .ok (.land, 1) := by decide +kernel
theorem dX6_apply_154 : decode cX6_apply 154 = .ok (.lreturn, 1) := by decide +kernel
theorem dX6_apply_155 : decode cX6_apply 155 = .ok (.lload_n 2, 1) := by decide +kernel
theorem dX6_apply_156 : decode cX6_apply 156 = .ok (.lload 4, 2) := by decide +kernel
theorem dX6_apply_158 : decode cX6_apply 158 = .ok (.l2i, 1) := by decide +kernel
theorem dX6_apply_159 : decode cX6_apply 159 = .ok (.lushr, 1) := by decide +kernel
theorem dX6_apply_160 : decode cX6_apply 160 = .ok (.lload_n 2, 1) := by decide +kernel
theorem dX6_apply_161 : decode cX6_apply 161 = .ok (.iload_n 0, 1) := by decide +kernel
theorem dX6_apply_162 : decode cX6_apply 162 = .ok (.lload 4, 2) := by decide +kernel
theorem dX6_apply_164 : decode cX6_apply 164 = .ok (.l2i, 1) := by decide +kernel
theorem dX6_apply_165 : decode cX6_apply 165 = .ok (.isub, 1) := by decide +kernel
theorem dX6_apply_166 : decode cX6_apply 166 = .ok (.lshl, 1) := by decide +kernel
theorem dX6_apply_167 : decode cX6_apply 167 = .ok (.lor, 1) := by decide +kernel
theorem dX6_apply_168 : decode cX6_apply 168 = .ok (.iload_n 0, 1) := by decide +kernel
theorem dX6_apply_169 : decode cX6_apply 169 = .ok (.invokestatic 13, 3) := by decide +kernel
theorem dX6_apply_172 : decode cX6_apply 172 = .ok (.land, 1) := by decide +kernel
theorem dX6_apply_173 : decode cX6_apply 173 = .ok (.lreturn, 1) := by decide +kernel
theorem dX6_apply_174 : decode cX6_apply 174 = .ok (.lload 4, 2) := by decide +kernel
theorem dX6_apply_176 : decode cX6_apply 176 = .ok (.lload_n 2, 1) := by decide +kernel
theorem dX6_apply_177 : decode cX6_apply 177 = .ok (.invokestatic 24, 3) := by decide +kernel
theorem dX6_apply_180 : decode cX6_apply 180 = .ok (.ifCond .eq 7, 3) := by decide +kernel
theorem dX6_apply_183 : decode cX6_apply 183 = .ok (.lconst 0, 1) := by decide +kernel
theorem dX6_apply_184 : decode cX6_apply 184 = .ok (.goto 4, 3) := by decide +kernel
theorem dX6_apply_187 : decode cX6_apply 187 = .ok (.lconst 1, 1) := by decide +kernel
theorem dX6_apply_188 : decode cX6_apply 188 = .ok (.lreturn, 1) := by decide +kernel
theorem dX6_apply_189 : decode cX6_apply 189 = .ok (.lload_n 2, 1) := by decide +kernel
theorem dX6_apply_190 : decode cX6_apply 190 = .ok (.iload_n 0, 1) := by decide +kernel
theorem dX6_apply_191 : decode cX6_apply 191 = .ok (.iconst 1, 1) := by decide +kernel
theorem dX6_apply_192 : decode cX6_apply 192 = .ok (.isub, 1) := by decide +kernel
theorem dX6_apply_193 : decode cX6_apply 193 = .ok (.lushr, 1) := by decide +kernel
theorem dX6_apply_194 : decode cX6_apply 194 = .ok (.lconst 0, 1) := by decide +kernel
theorem dX6_apply_195 : decode cX6_apply 195 = .ok (.lcmp, 1) := by decide +kernel
theorem dX6_apply_196 : decode cX6_apply 196 = .ok (.ifCond .ne 7, 3) := by decide +kernel
theorem dX6_apply_199 : decode cX6_apply 199 = .ok (.lconst 0, 1) := by decide +kernel
theorem dX6_apply_200 : decode cX6_apply 200 = .ok (.goto 5, 3) := by decide +kernel
theorem dX6_apply_203 : decode cX6_apply 203 = .ok (.lload 4, 2) := by decide +kernel
theorem dX6_apply_205 : decode cX6_apply 205 = .ok (.lreturn, 1) := by decide +kernel
theorem dX6_apply_206 : decode cX6_apply 206 = .ok (.lconst 0, 1) := by decide +kernel
theorem dX6_apply_207 : decode cX6_apply 207 = .ok (.lreturn, 1) := by decide +kernel
theorem dX7_init_0 : decode cX7_init 0 = .ok (.aload_n 0, 1) := by decide +kernel
theorem dX7_init_1 : decode cX7_init 1 = .ok (.invokespecial 1, 3) := by decide +kernel
theorem dX7_init_4 : decode cX7_init 4 = .ok (.iload_n 1, 1) := by decide +kernel
theorem dX7_init_5 : decode cX7_init 5 = .ok (.invokestatic 7, 3) := by decide +kernel
theorem dX7_init_8 : decode cX7_init 8 = .ok (.lstore 5, 2) := by decide +kernel
theorem dX7_init_10 : decode cX7_init 10 = .ok (.lload 5, 2) := by decide +kernel
theorem dX7_init_12 : decode cX7_init 12 = .ok (.lload_n 2, 1) := by decide +kernel
theorem dX7_init_13 : decode cX7_init 13 = .ok (.invokestatic 13, 3) := by decide +kernel
theorem dX7_init_16 : decode cX7_init 16 = .ok (.lstore 7, 2) := by decide +kernel
theorem dX7_init_18 : decode cX7_init 18 = .ok (.lload 5, 2) := by decide +kernel
theorem dX7_init_20 : decode cX7_init 20 = .ok (.lload 7, 2) := by decide +kernel
theorem dX7_init_22 : decode cX7_init 22 = .ok (.lload_n 2, 1) := by decide +kernel
theorem dX7_init_23 : decode cX7_init 23 = .ok (.lmul, 1) := by decide +kernel
theorem dX7_init_24 : decode cX7_init 24 = .ok (.lsub, 1) := by decide +kernel
theorem dX7_init_25 : decode cX7_init 25 = .ok (.lconst 1, 1) := by decide +kernel
theorem dX7_init_26 : decode cX7_init 26 = .ok (.ladd, 1) := by decide +kernel
theorem dX7_init_27 : decode cX7_init 27 = .ok (.lstore 9, 2) := by decide +kernel
theorem dX7_init_29 : decode cX7_init 29 = .ok (.iconst 0, 1) := by decide +kernel
theorem dX7_init_30 : decode cX7_init 30 = .ok (.istore 11, 2) := by decide +kernel
theorem dX7_init_32 : decode cX7_init 32 = .ok (.iconst 0, 1) := by decide +kernel
theorem dX7_init_33 : decode cX7_init 33 = .ok (.istore 12, 2) := by decide +kernel
theorem dX7_init_35 : decode cX7_init 35 = .ok (.iload 12, 2) := by decide +kernel
theorem dX7_init_37 : decode cX7_init 37 = .ok (.iload_n 1, 1) := by decide +kernel
theorem dX7_init_38 : decode cX7_init 38 = .ok (.if_icmp .ge 90, 3) := by decide +kernel
theorem dX7_init_41 : decode cX7_init 41 = .ok (.lload_n 2, 1) := by decide +kernel
theorem dX7_init_42 : decode cX7_init 42 = .ok (.lload 9, 2) := by decide +kernel
theorem dX7_init_44 : decode cX7_init 44 = .ok (.lsub, 1) := by decide +kernel
theorem dX7_init_45 : decode cX7_init 45 = .ok (.iload 12, 2) := by decide +kernel
theorem dX7_init_47 : decode cX7_init 47 = .ok (.iload 4, 2) := by decide +kernel
theorem dX7_init_49 : decode cX7_init 49 = .ok (.iadd, 1) := by decide +kernel
theorem dX7_init_50 : decode cX7_init 50 = .ok (.invokestatic 17, 3) := by decide +kernel
theorem dX7_init_53 : decode cX7_init 53 = .ok (.ifCond .eq 75, 3) := by decide +kernel
theorem dX7_init_56 : decode cX7_init 56 = .ok (.lload 7, 2) := by decide +kernel
theorem dX7_init_58 : decode cX7_init 58 = .ok (.iload_n 1, 1) := by decide +kernel
theorem dX7_init_59 : decode cX7_init 59 = .ok (.iconst 1, 1) := by decide +kernel
theorem dX7_init_60 : decode cX7_init 60 = .ok (.isub, 1) := by decide +kernel
theorem dX7_init_61 : decode cX7_init 61 = .ok (.lushr, 1) := by decide +kernel
theorem dX7_init_62 : decode cX7_init 62 = .ok (.lconst 0, 1) := by decide +kernel
theorem dX7_init_63 : decode cX7_init 63 = .ok (.lcmp, 1) := by decide +kernel
theorem dX7_init_64 : decode cX7_init 64 = .ok (.ifCond .eq 7, 3) := by decide +kernel
theorem dX7_init_67 : decode cX7_init 67 = .ok (.iconst 1, 1) := by decide +kernel
theorem dX7_init_68 : decode cX7_init 68 = .ok (.goto 4, 3) := by decide +kernel
theorem dX7_init_71 : decode cX7_init 71 = .ok (.iconst 0, 1) := by decide +kernel
theorem dX7_init_72 : decode cX7_init 72 = .ok (.istore 11, 2) := by decide +kernel
theorem dX7_init_74 : decode cX7_init 74 = .ok (.lload 7, 2) := by decide +kernel
theorem dX7_init_76 : decode cX7_init 76 = .ok (.iconst 1, 1) := by decide +kernel
theorem dX7_init_77 : decode cX7_init 77 = .ok (.lshl, 1) := by decide +kernel
theorem dX7_init_78 : decode cX7_init 78 = .ok (.lload 5, 2) := by decide +kernel
theorem dX7_init_80 : decode cX7_init 80 = .ok (.land, 1) := by decide +kernel
theorem dX7_init_81 : decode cX7_init 81 = .ok (.lstore 7, 2) := by decide +kernel
theorem dX7_init_83 : decode cX7_init 83 = .ok (.lload_n 2, 1) := by decide +kernel
theorem dX7_init_84 : decode cX7_init 84 = .ok (.lload 9, 2) := by decide +kernel
theorem dX7_init_86 : decode cX7_init 86 = .ok (.lsub, 1) := by decide +kernel
theorem dX7_init_87 : decode cX7_init 87 = .ok (.lstore 13, 2) := by decide +kernel
theorem dX7_init_89 : decode cX7_init 89 = .ok (.lload 9, 2) := by decide +kernel
theorem dX7_init_91 : decode cX7_init 91 = .ok (.lload 13, 2) := by decide +kernel
theorem dX7_init_93 : decode cX7_init 93 = .ok (.invokestatic 23, 3) := by decide +kernel
theorem dX7_init_96 : decode cX7_init 96 = .ok (.ifCond .eq 13, 3) := by decide +kernel
theorem dX7_init_99 : decode cX7_init 99 = .ok (.lload 9, 2) := by decide +kernel
theorem dX7_init_101 : decode cX7_init 101 = .ok (.lload 9, 2) := by decide +kernel
theorem dX7_init_103 : decode cX7_init 103 = .ok (.ladd, 1) := by decide +kernel
theorem dX7_init_104 : decode cX7_init 104 = .ok (.lstore 9, 2) := by decide +kernel
theorem dX7_init_106 : decode cX7_init 106 = .ok (.goto 16, 3) := by decide +kernel
theorem dX7_init_109 : decode cX7_init 109 = .ok (.lload 9, 2) := by decide +kernel
theorem dX7_init_111 : decode cX7_init 111 = .ok (.lload 13, 2) := by decide +kernel
theorem dX7_init_113 : decode cX7_init 113 = .ok (.lsub, 1) := by decide +kernel
theorem dX7_init_114 : decode cX7_init 114 = .ok (.lstore 9, 2) := by decide +kernel
theorem dX7_init_116 : decode cX7_init 116 = .ok (.lload 7, 2) := by decide +kernel
theorem dX7_init_118 : decode cX7_init 118 = .ok (.lconst 1, 1) := by decide +kernel
theorem dX7_init_119 : decode cX7_init 119 = .ok (.lor, 1) := by decide +kernel
theorem dX7_init_120 : decode cX7_init 120 = .ok (.lstore 7, 2) := by decide +kernel
theorem dX7_init_122 : decode cX7_init 122 = .ok (.iinc 12 1, 3) := by decide +kernel
theorem dX7_init_125 : decode cX7_init 125 = .ok (.goto (-90), 3) := by decide +kernel
theorem dX7_init_128 : decode cX7_init 128 = .ok (.aload_n 0, 1) := by decide +kernel
theorem dX7_init_129 : decode cX7_init 129 = .ok (.iload 12, 2) := by decide +kernel
theorem dX7_init_131 : decode cX7_init 131 = .ok (.putfield 27, 3) := by decide +kernel
theorem dX7_init_134 : decode cX7_init 134 = .ok (.aload_n 0, 1) := by decide +kernel
theorem dX7_init_135 : decode cX7_init 135 = .ok (.lload 7, 2) := by decide +kernel
theorem dX7_init_137 : decode cX7_init 137 = .ok (.lconst 1, 1) := by decide +kernel
theorem dX7_init_138 : decode cX7_init 138 = .ok (.ladd, 1) := by decide +kernel
theorem dX7_init_139 : decode cX7_init 139 = .ok (.lload 5, 2) := by decide +kernel
theorem dX7_init_141 : decode cX7_init 141 = .ok (.land, 1) := by decide +kernel
theorem dX7_init_142 : decode cX7_init 142 = .ok (.putfield 31, 3) := by decide +kernel
theorem dX7_init_145 : decode cX7_init 145 = .ok (.aload_n 0, 1) := by decide +kernel
theorem dX7_init_146 : decode cX7_init 146 = .ok (.iload 11, 2) := by decide +kernel
theorem dX7_init_148 : decode cX7_init 148 = .ok (.ifCond .ne 12, 3) := by decide +kernel
theorem dX7_init_151 : decode cX7_init 151 = .ok (.aload_n 0, 1) := by decide +kernel
theorem dX7_init_152 : decode cX7_init 152 = .ok (.getfield 31, 3) := by decide +kernel
theorem dX7_init_155 : decode cX7_init 155 = .ok (.lconst 0, 1) := by decide +kernel
theorem dX7_init_156 : decode cX7_init 156 = .ok (.lcmp, 1) := by decide +kernel
theorem dX7_init_157 : decode cX7_init 157 = .ok (.ifCond .ne 7, 3) := by decide +kernel
theorem dX7_init_160 : decode cX7_init 160 = .ok (.iconst 1, 1) := by decide +kernel
theorem dX7_init_161 : decode cX7_init 161 = .ok (.goto 4, 3) := by decide +kernel
theorem dX7_init_164 : decode cX7_init 164 = .ok (.iconst 0, 1) := by decide +kernel
theorem dX7_init_165 : decode cX7_init 165 = .ok (.putfield 35, 3) := by decide +kernel
theorem dX7_init_168 : decode cX7_init 168 = .ok (.aload_n 0, 1) := by decide +kernel
theorem dX7_init_169 : decode cX7_init 169 = .ok (.lload_n 2, 1) := by decide +kernel
theorem dX7_init_170 : decode cX7_init 170 = .ok (.lload 9, 2) := by decide +kernel
theorem dX7_init_172 : decode cX7_init 172 = .ok (.lsub, 1) := by decide +kernel
theorem dX7_init_173 : decode cX7_init 173 = .ok (.putfield 39, 3) := by decide +kernel
theorem dX7_init_176 : decode cX7_init 176 = .ok (.return_, 1) := by decide +kernel
theorem dX7_isAbovePower_0 : decode cX7_isAbovePower 0 = .ok (.iload_n 2, 1) := by decide +kernel
theorem dX7_isAbovePower_1 : decode cX7_isAbovePower 1 = .ok (.bipush 64, 2) := by decide +kernel
theorem dX7_isAbovePower_3 : decode cX7_isAbovePower 3 = .ok (.if_icmp .ge 17, 3) := by decide +kernel
theorem dX7_isAbovePower_6 : decode cX7_isAbovePower 6 = .ok (.lconst 1, 1) := by decide +kernel
theorem dX7_isAbovePower_7 : decode cX7_isAbovePower 7 = .ok (.iload_n 2, 1) := by decide +kernel
theorem dX7_isAbovePower_8 : decode cX7_isAbovePower 8 = .ok (.lshl, 1) := by decide +kernel
theorem dX7_isAbovePower_9 : decode cX7_isAbovePower 9 = .ok (.lload_n 0, 1) := by decide +kernel
theorem dX7_isAbovePower_10 : decode cX7_isAbovePower 10 = .ok (.invokestatic 23, 3) := by decide +kernel
theorem dX7_isAbovePower_13 : decode cX7_isAbovePower 13 = .ok (.ifCond .eq 7, 3) := by decide +kernel
theorem dX7_isAbovePower_16 : decode cX7_isAbovePower 16 = .ok (.iconst 1, 1) := by decide +kernel
theorem dX7_isAbovePower_17 : decode cX7_isAbovePower 17 = .ok (.goto 4, 3) := by decide +kernel
theorem dX7_isAbovePower_20 : decode cX7_isAbovePower 20 = .ok (.iconst 0, 1) := by decide +kernel
theorem dX7_isAbovePower_21 : decode cX7_isAbovePower 21 = .ok (.ireturn, 1) := by decide +kernel
theorem dJ13_bitCount_95d88_0 : decode cJ13_bitCount_95d88 0 = .ok (.lload_n 0, 1) := by decide +kernel
theorem dJ13_bitCount_95d88_1 : decode cJ13_bitCount_95d88 1 = .ok (.lload_n 0, 1) := by decide +kernel
theorem dJ13_bitCount_95d88_2 : decode cJ13_bitCount_95d88 2 = .ok (.iconst 1, 1) := by decide +kernel
theorem dJ13_bitCount_95d88_3 : decode cJ13_bitCount_95d88 3 = .ok (.lushr, 1) := by decide +kernel
theorem dJ13_bitCount_95d88_4 : decode cJ13_bitCount_95d88 4 = .ok (.ldc2_w 314, 3) := by decide +kernel
theorem dJ13_bitCount_95d88_7 : decode cJ13_bitCount_95d88 7 = .ok (.land, 1) := by decide +kernel
theorem dJ13_bitCount_95d88_8 : decode cJ13_bitCount_95d88 8 = .ok (.lsub, 1) := by decide +kernel
theorem dJ13_bitCount_95d88_9 : decode cJ13_bitCount_95d88 9 = .ok (.lstore_n 0, 1) := by decide +kernel
theorem dJ13_bitCount_95d88_10 : decode cJ13_bitCount_95d88 10 = .ok (.lload_n 0, 1) := by decide +kernel
theorem dJ13_bitCount_95d88_11 : decode cJ13_bitCount_95d88 11 = .ok (.ldc2_w 316, 3) := by decide +kernel
theorem dJ13_bitCount_95d88_14 : decode cJ13_bitCount_95d88 14 = .ok (.land, 1) := by decide +kernel
theorem dJ13_bitCount_95d88_15 : decode cJ13_bitCount_95d88 15 = .ok (.lload_n 0, 1) := by decide +kernel
theorem dJ13_bitCount_95d88_16 : decode cJ13_bitCount_95d88 16 = .ok (.iconst 2, 1) := by decide +kernel
theorem dJ13_bitCount_95d88_17 : decode cJ13_bitCount_95d88 17 = .ok (.lushr, 1) := by decide +kernel
theorem dJ13_bitCount_95d88_18 : decode cJ13_bitCount_95d88 18 = .ok (.ldc2_w 316, 3) := by decide +kernel
theorem dJ13_bitCount_95d88_21 : decode cJ13_bitCount_95d88 21 = .ok (.land, 1) := by decide +kernel
theorem dJ13_bitCount_95d88_22 : decode cJ13_bitCount_95d88 22 = .ok (.ladd, 1) := by decide +kernel
theorem dJ13_bitCount_95d88_23 : decode cJ13_bitCount_95d88 23 = .ok (.lstore_n 0, 1) := by decide +kernel
theorem dJ13_bitCount_95d88_24 : decode cJ13_bitCount_95d88 24 = .ok (.lload_n 0, 1) := by decide +kernel
theorem dJ13_bitCount_95d88_25 : decode cJ13_bitCount_95d88 25 = .ok (.lload_n 0, 1) := by decide +kernel
theorem dJ13_bitCount_95d88_26 : decode cJ13_bitCount_95d88 26 = .ok (.iconst 4, 1) := by decide +kernel
theorem dJ13_bitCount_95d88_27 : decode cJ13_bitCount_95d88 27 = .ok (.lushr, 1) := by decide +kernel
theorem dJ13_bitCount_95d88_28 : decode cJ13_bitCount_95d88 28 = .ok (.ladd, 1) := by decide +kernel
theorem dJ13_bitCount_95d88_29 : decode cJ13_bitCount_95d88 29 = .ok (.ldc2_w 318, 3) := by decide +kernel
theorem dJ13_bitCount_95d88_32 : decode cJ13_bitCount_95d88 32 = .ok (.land, 1) := by decide +kernel
theorem dJ13_bitCount_95d88_33 : decode cJ13_bitCount_95d88 33 = .ok (.lstore_n 0, 1) := by decide +kernel
theorem dJ13_bitCount_95d88_34 : decode cJ13_bitCount_95d88 34 = .ok (.lload_n 0, 1) := by decide +kernel
theorem dJ13_bitCount_95d88_35 : decode cJ13_bitCount_95d88 35 = .ok (.lload_n 0, 1) := by decide +kernel
theorem dJ13_bitCount_95d88_36 : decode cJ13_bitCount_95d88 36 = .ok (.bipush 8, 2) := by decide +kernel
theorem dJ13_bitCount_95d88_38 : decode cJ13_bitCount_95d88 38 = .ok (.lushr, 1) := by decide +kernel
theorem dJ13_bitCount_95d88_39 : decode cJ13_bitCount_95d88 39 = .ok (.ladd, 1) := by decide +kernel
theorem dJ13_bitCount_95d88_40 : decode cJ13_bitCount_95d88 40 = .ok (.lstore_n 0, 1) := by decide +kernel
theorem dJ13_bitCount_95d88_41 : decode cJ13_bitCount_95d88 41 = .ok (.lload_n 0, 1) := by decide +kernel
theorem dJ13_bitCount_95d88_42 : decode cJ13_bitCount_95d88 42 = .ok (.lload_n 0, 1) := by decide +kernel
theorem dJ13_bitCount_95d88_43 : decode cJ13_bitCount_95d88 43 = .ok (.bipush 16, 2) := by decide +kernel
theorem dJ13_bitCount_95d88_45 : decode cJ13_bitCount_95d88 45 = .ok (.lushr, 1) := by decide +kernel
theorem dJ13_bitCount_95d88_46 : decode cJ13_bitCount_95d88 46 = .ok (.ladd, 1) := by decide +kernel
theorem dJ13_bitCount_95d88_47 : decode cJ13_bitCount_95d88 47 = .ok (.lstore_n 0, 1) := by decide +kernel
theorem dJ13_bitCount_95d88_48 : decode cJ13_bitCount_95d88 48 = .ok (.lload_n 0, 1) := by decide +kernel
theorem dJ13_bitCount_95d88_49 : decode cJ13_bitCount_95d88 49 = .ok (.lload_n 0, 1) := by decide +kernel
theorem dJ13_bitCount_95d88_50 : decode cJ13_bitCount_95d88 50 = .ok (.bipush 32, 2) := by decide +kernel
theorem dJ13_bitCount_95d88_52 : decode cJ13_bitCount_95d88 52 = .ok (.lushr, 1) := by decide +kernel
theorem dJ13_bitCount_95d88_53 : decode cJ13_bitCount_95d88 53 = .ok (.ladd, 1) := by decide +kernel
theorem dJ13_bitCount_95d88_54 : decode cJ13_bitCount_95d88 54 = .ok (.lstore_n 0, 1) := by decide +kernel
theorem dJ13_bitCount_95d88_55 : decode cJ13_bitCount_95d88 55 = .ok (.lload_n 0, 1) := by decide +kernel
theorem dJ13_bitCount_95d88_56 : decode cJ13_bitCount_95d88 56 = .ok (.l2i, 1) := by decide +kernel
theorem dJ13_bitCount_95d88_57 : decode cJ13_bitCount_95d88 57 = .ok (.bipush 127, 2) := by decide +kernel
theorem dJ13_bitCount_95d88_59 : decode cJ13_bitCount_95d88 59 = .ok (.iand, 1) := by decide +kernel
theorem dJ13_bitCount_95d88_60 : decode cJ13_bitCount_95d88 60 = .ok (.ireturn, 1) := by decide +kernel
