theorem dX10_init_0 : decode cX10_init 0 = .ok (.aload_n 0, 1) := by decide +kernel
theorem dX10_init_1 : decode cX10_init 1 = .ok (.invokespecial 1, 3) := by decide +kernel
theorem dX10_init_4 : decode cX10_init 4 = .ok (.aload_n 0, 1) := by decide +kernel
theorem dX10_init_5 : decode cX10_init 5 = .ok (.bipush 60, 2) := by decide +kernel
theorem dX10_init_7 : decode cX10_init 7 = .ok (.anewarray 9, 3) := by decide +kernel
theorem dX10_init_10 : decode cX10_init 10 = .ok (.putfield 11, 3) := by decide +kernel
theorem dX10_init_13 : decode cX10_init 13 = .ok (.aload_n 0, 1) := by decide +kernel
theorem dX10_init_14 : decode cX10_init 14 = .ok (.bipush 13, 2) := by decide +kernel
theorem dX10_init_16 : decode cX10_init 16 = .ok (.newarray .int, 2) := by decide +kernel
theorem dX10_init_18 : decode cX10_init 18 = .ok (.putfield 15, 3) := by decide +kernel
theorem dX10_init_21 : decode cX10_init 21 = .ok (.aload_n 0, 1) := by decide +kernel
theorem dX10_init_22 : decode cX10_init 22 = .ok (.iconst 4, 1) := by decide +kernel
theorem dX10_init_23 : decode cX10_init 23 = .ok (.newarray .long, 2) := by decide +kernel
theorem dX10_init_25 : decode cX10_init 25 = .ok (.putfield 19, 3) := by decide +kernel
theorem dX10_init_28 : decode cX10_init 28 = .ok (.aload_n 0, 1) := by decide +kernel
theorem dX10_init_29 : decode cX10_init 29 = .ok (.bipush 8, 2) := by decide +kernel
theorem dX10_init_31 : decode cX10_init 31 = .ok (.anewarray 23, 3) := by decide +kernel
theorem dX10_init_34 : decode cX10_init 34 = .ok (.putfield 25, 3) := by decide +kernel
theorem dX10_init_37 : decode cX10_init 37 = .ok (.aload_n 0, 1) := by decide +kernel
theorem dX10_init_38 : decode cX10_init 38 = .ok (.new 23, 3) := by decide +kernel
theorem dX10_init_41 : decode cX10_init 41 = .ok (.dup, 1) := by decide +kernel
theorem dX10_init_42 : decode cX10_init 42 = .ok (.iconst 0, 1) := by decide +kernel
theorem dX10_init_43 : decode cX10_init 43 = .ok (.iconst 0, 1) := by decide +kernel
theorem dX10_init_44 : decode cX10_init 44 = .ok (.lconst 0, 1) := by decide +kernel
theorem dX10_init_45 : decode cX10_init 45 = .ok (.iconst 0, 1) := by decide +kernel
theorem dX10_init_46 : decode cX10_init 46 = .ok (.invokespecial 29, 3) := by decide +kernel
theorem dX10_init_49 : decode cX10_init 49 = .ok (.putfield 32, 3) := by decide +kernel
theorem dX10_init_52 : decode cX10_init 52 = .ok (.aload_n 0, 1) := by decide +kernel
theorem dX10_init_53 : decode cX10_init 53 = .ok (.new 36, 3) := by decide +kernel
theorem dX10_init_56 : decode cX10_init 56 = .ok (.dup, 1) := by decide +kernel
theorem dX10_init_57 : decode cX10_init 57 = .ok (.invokespecial 38, 3) := by decide +kernel
theorem dX10_init_60 : decode cX10_init 60 = .ok (.putfield 39, 3) := by decide +kernel
theorem dX10_init_63 : decode cX10_init 63 = .ok (.aload_n 0, 1) := by decide +kernel
theorem dX10_init_64 : decode cX10_init 64 = .ok (.new 43, 3) := by decide +kernel
theorem dX10_init_67 : decode cX10_init 67 = .ok (.dup, 1) := by decide +kernel
theorem dX10_init_68 : decode cX10_init 68 = .ok (.invokespecial 45, 3) := by decide +kernel
theorem dX10_init_71 : decode cX10_init 71 = .ok (.putfield 46, 3) := by decide +kernel
theorem dX10_init_74 : decode cX10_init 74 = .ok (.aload_n 0, 1) := by decide +kernel
theorem dX10_init_75 : decode cX10_init 75 = .ok (.bipush 13, 2) := by decide +kernel
theorem dX10_init_77 : decode cX10_init 77 = .ok (.newarray .long, 2) := by decide +kernel
theorem dX10_init_79 : decode cX10_init 79 = .ok (.putfield 50, 3) := by decide +kernel
theorem dX10_init_82 : decode cX10_init 82 = .ok (.getstatic 53, 3) := by decide +kernel
theorem dX10_init_85 : decode cX10_init 85 = .ok (.iconst 0, 1) := by decide +kernel
theorem dX10_init_86 : decode cX10_init 86 = .ok (.aload_n 0, 1) := by decide +kernel
theorem dX10_init_87 : decode cX10_init 87 = .ok (.getfield 15, 3) := by decide +kernel
theorem dX10_init_90 : decode cX10_init 90 = .ok (.iconst 0, 1) := by decide +kernel
theorem dX10_init_91 : decode cX10_init 91 = .ok (.bipush 13, 2) := by decide +kernel
theorem dX10_init_93 : decode cX10_init 93 = .ok (.invokestatic 56, 3) := by decide +kernel
theorem dX10_init_96 : decode cX10_init 96 = .ok (.iconst 0, 1) := by decide +kernel
theorem dX10_init_97 : decode cX10_init 97 = .ok (.istore_n 1, 1) := by decide +kernel
theorem dX10_init_98 : decode cX10_init 98 = .ok (.iload_n 1, 1) := by decide +kernel
theorem dX10_init_99 : decode cX10_init 99 = .ok (.bipush 8, 2) := by decide +kernel
theorem dX10_init_101 : decode cX10_init 101 = .ok (.if_icmp .ge 19, 3) := by decide +kernel
theorem dX10_init_104 : decode cX10_init 104 = .ok (.aload_n 0, 1) := by decide +kernel
theorem dX10_init_105 : decode cX10_init 105 = .ok (.getfield 25, 3) := by decide +kernel
theorem dX10_init_108 : decode cX10_init 108 = .ok (.iload_n 1, 1) := by decide +kernel
theorem dX10_init_109 : decode cX10_init 109 = .ok (.aload_n 0, 1) := by decide +kernel
theorem dX10_init_110 : decode cX10_init 110 = .ok (.getfield 32, 3) := by decide +kernel
theorem dX10_init_113 : decode cX10_init 113 = .ok (.aastore, 1) := by decide +kernel
theorem dX10_init_114 : decode cX10_init 114 = .ok (.iinc 1 1, 3) := by decide +kernel
theorem dX10_init_117 : decode cX10_init 117 = .ok (.goto (-19), 3) := by decide +kernel
theorem dX10_init_120 : decode cX10_init 120 = .ok (.return_, 1) := by decide +kernel
theorem dX10_form_0 : decode cX10_form 0 = .ok (.iload_n 1, 1) := by decide +kernel
theorem dX10_form_1 : decode cX10_form 1 = .ok (.invokestatic 62, 3) := by decide +kernel
theorem dX10_form_4 : decode cX10_form 4 = .ok (.ifCond .ne 5, 3) := by decide +kernel
theorem dX10_form_7 : decode cX10_form 7 = .ok (.iconst (-1), 1) := by decide +kernel
theorem dX10_form_8 : decode cX10_form 8 = .ok (.ireturn, 1) := by decide +kernel
theorem dX10_form_9 : decode cX10_form 9 = .ok (.aload_n 0, 1) := by decide +kernel
theorem dX10_form_10 : decode cX10_form 10 = .ok (.getfield 68, 3) := by decide +kernel
theorem dX10_form_13 : decode cX10_form 13 = .ok (.bipush 60, 2) := by decide +kernel
theorem dX10_form_15 : decode cX10_form 15 = .ok (.if_icmp .lt 6, 3) := by decide +kernel
theorem dX10_form_18 : decode cX10_form 18 = .ok (.bipush (-2), 2) := by decide +kernel
theorem dX10_form_20 : decode cX10_form 20 = .ok (.ireturn, 1) := by decide +kernel
theorem dX10_form_21 : decode cX10_form 21 = .ok (.aload_n 0, 1) := by decide +kernel
theorem dX10_form_22 : decode cX10_form 22 = .ok (.iload_n 1, 1) := by decide +kernel
theorem dX10_form_23 : decode cX10_form 23 = .ok (.invokevirtual 72, 3) := by decide +kernel
theorem dX10_form_26 : decode cX10_form 26 = .ok (.pop, 1) := by decide +kernel
theorem dX10_form_27 : decode cX10_form 27 = .ok (.aload_n 0, 1) := by decide +kernel
theorem dX10_form_28 : decode cX10_form 28 = .ok (.getfield 68, 3) := by decide +kernel
theorem dX10_form_31 : decode cX10_form 31 = .ok (.iconst 1, 1) := by decide +kernel
theorem dX10_form_32 : decode cX10_form 32 = .ok (.isub, 1) := by decide +kernel
theorem dX10_form_33 : decode cX10_form 33 = .ok (.ireturn, 1) := by decide +kernel
theorem dX10_step_0 : decode cX10_step 0 = .ok (.aload_n 0, 1) := by decide +kernel
theorem dX10_step_1 : decode cX10_step 1 = .ok (.iload_n 1, 1) := by decide +kernel
theorem dX10_step_2 : decode cX10_step 2 = .ok (.invokevirtual 76, 3) := by decide +kernel
theorem dX10_step_5 : decode cX10_step 5 = .ok (.astore 6, 2) := by decide +kernel
theorem dX10_step_7 : decode cX10_step 7 = .ok (.aload 6, 2) := by decide +kernel
theorem dX10_step_9 : decode cX10_step 9 = .ok (.ifnull 34, 3) := by decide +kernel
theorem dX10_step_12 : decode cX10_step 12 = .ok (.iload_n 2, 1) := by decide +kernel
theorem dX10_step_13 : decode cX10_step 13 = .ok (.invokestatic 79, 3) := by decide +kernel
theorem dX10_step_16 : decode cX10_step 16 = .ok (.ifCond .eq 27, 3) := by decide +kernel
theorem dX10_step_19 : decode cX10_step 19 = .ok (.iload_n 3, 1) := by decide +kernel
theorem dX10_step_20 : decode cX10_step 20 = .ok (.ifCond .lt 23, 3) := by decide +kernel
theorem dX10_step_23 : decode cX10_step 23 = .ok (.iload_n 3, 1) := by decide +kernel
theorem dX10_step_24 : decode cX10_step 24 = .ok (.aload 6, 2) := by decide +kernel
theorem dX10_step_26 : decode cX10_step 26 = .ok (.getfield 82, 3) := by decide +kernel
theorem dX10_step_29 : decode cX10_step 29 = .ok (.if_icmp .gt 14, 3) := by decide +kernel
theorem dX10_step_32 : decode cX10_step 32 = .ok (.aload 6, 2) := by decide +kernel
theorem dX10_step_34 : decode cX10_step 34 = .ok (.iload_n 2, 1) := by decide +kernel
theorem dX10_step_35 : decode cX10_step 35 = .ok (.lload 4, 2) := by decide +kernel
theorem dX10_step_37 : decode cX10_step 37 = .ok (.invokestatic 85, 3) := by decide +kernel
theorem dX10_step_40 : decode cX10_step 40 = .ok (.ifCond .ne 5, 3) := by decide +kernel
theorem dX10_step_43 : decode cX10_step 43 = .ok (.iconst (-1), 1) := by decide +kernel
theorem dX10_step_44 : decode cX10_step 44 = .ok (.ireturn, 1) := by decide +kernel
theorem dX10_step_45 : decode cX10_step 45 = .ok (.aload 6, 2) := by decide +kernel
theorem dX10_step_47 : decode cX10_step 47 = .ok (.getfield 82, 3) := by decide +kernel
theorem dX10_step_50 : decode cX10_step 50 = .ok (.bipush 12, 2) := by decide +kernel
theorem dX10_step_52 : decode cX10_step 52 = .ok (.if_icmp .lt 6, 3) := by decide +kernel
theorem dX10_step_55 : decode cX10_step 55 = .ok (.bipush (-2), 2) := by decide +kernel
theorem dX10_step_57 : decode cX10_step 57 = .ok (.ireturn, 1) := by decide +kernel
theorem dX10_step_58 : decode cX10_step 58 = .ok (.aload 6, 2) := by decide +kernel
theorem dX10_step_60 : decode cX10_step 60 = .ok (.iload_n 2, 1) := by decide +kernel
theorem dX10_step_61 : decode cX10_step 61 = .ok (.iload_n 3, 1) := by decide +kernel
theorem dX10_step_62 : decode cX10_step 62 = .ok (.lload 4, 2) := by decide +kernel
theorem dX10_step_64 : decode cX10_step 64 = .ok (.aload 6, 2) := by decide +kernel
theorem dX10_step_66 : decode cX10_step 66 = .ok (.getfield 89, 3) := by decide +kernel
theorem dX10_step_69 : decode cX10_step 69 = .ok (.invokestatic 92, 3) := by decide +kernel
theorem dX10_step_72 : decode cX10_step 72 = .ok (.land, 1) := by decide +kernel
theorem dX10_step_73 : decode cX10_step 73 = .ok (.invokevirtual 96, 3) := by decide +kernel
theorem dX10_step_76 : decode cX10_step 76 = .ok (.pop, 1) := by decide +kernel
theorem dX10_step_77 : decode cX10_step 77 = .ok (.aload_n 0, 1) := by decide +kernel
theorem dX10_step_78 : decode cX10_step 78 = .ok (.getfield 39, 3) := by decide +kernel
theorem dX10_step_81 : decode cX10_step 81 = .ok (.new 100, 3) := by decide +kernel
theorem dX10_step_84 : decode cX10_step 84 = .ok (.dup, 1) := by decide +kernel
theorem dX10_step_85 : decode cX10_step 85 = .ok (.iconst 1, 1) := by decide +kernel
theorem dX10_step_86 : decode cX10_step 86 = .ok (.iload_n 1, 1) := by decide +kernel
theorem dX10_step_87 : decode cX10_step 87 = .ok (.iconst 0, 1) := by decide +kernel
theorem dX10_step_88 : decode cX10_step 88 = .ok (.lconst 0, 1) := by decide +kernel
theorem dX10_step_89 : decode cX10_step 89 = .ok (.aconst_null, 1) := by decide +kernel
theorem dX10_step_90 : decode cX10_step 90 = .ok (.invokespecial 102, 3) := by decide +kernel
theorem dX10_step_93 : decode cX10_step 93 = .ok (.invokevirtual 105, 3) := by decide +kernel
theorem dX10_step_96 : decode cX10_step 96 = .ok (.aload 6, 2) := by decide +kernel
theorem dX10_step_98 : decode cX10_step 98 = .ok (.getfield 82, 3) := by decide +kernel
theorem dX10_step_101 : decode cX10_step 101 = .ok (.iconst 1, 1) := by decide +kernel
theorem dX10_step_102 : decode cX10_step 102 = .ok (.isub, 1) := by decide +kernel
theorem dX10_step_103 : decode cX10_step 103 = .ok (.ireturn, 1) := by decide +kernel
theorem dX10_make_0 : decode cX10_make 0 = .ok (.iload_n 1, 1) := by decide +kernel
theorem dX10_make_1 : decode cX10_make 1 = .ok (.iload_n 2, 1) := by decide +kernel
theorem dX10_make_2 : decode cX10_make 2 = .ok (.iload_n 3, 1) := by decide +kernel
theorem dX10_make_3 : decode cX10_make 3 = .ok (.lload 4, 2) := by decide +kernel
theorem dX10_make_5 : decode cX10_make 5 = .ok (.invokestatic 108, 3) := by decide +kernel
theorem dX10_make_8 : decode cX10_make 8 = .ok (.ifCond .ne 5, 3) := by decide +kernel
theorem dX10_make_11 : decode cX10_make 11 = .ok (.iconst (-1), 1) := by decide +kernel
theorem dX10_make_12 : decode cX10_make 12 = .ok (.ireturn, 1) := by decide +kernel
theorem dX10_make_13 : decode cX10_make 13 = .ok (.aload_n 0, 1) := by decide +kernel
theorem dX10_make_14 : decode cX10_make 14 = .ok (.getfield 68, 3) := by decide +kernel
theorem dX10_make_17 : decode cX10_make 17 = .ok (.bipush 60, 2) := by decide +kernel
theorem dX10_make_19 : decode cX10_make 19 = .ok (.if_icmp .lt 6, 3) := by decide +kernel
theorem dX10_make_22 : decode cX10_make 22 = .ok (.bipush (-2), 2) := by decide +kernel
theorem dX10_make_24 : decode cX10_make 24 = .ok (.ireturn, 1) := by decide +kernel
theorem dX10_make_25 : decode cX10_make 25 = .ok (.new 114, 3) := by decide +kernel
theorem dX10_make_28 : decode cX10_make 28 = .ok (.dup, 1) := by decide +kernel
theorem dX10_make_29 : decode cX10_make 29 = .ok (.aload_n 0, 1) := by decide +kernel
theorem dX10_make_30 : decode cX10_make 30 = .ok (.iload_n 1, 1) := by decide +kernel
theorem dX10_make_31 : decode cX10_make 31 = .ok (.invokevirtual 72, 3) := by decide +kernel
theorem dX10_make_34 : decode cX10_make 34 = .ok (.new 109, 3) := by decide +kernel
theorem dX10_make_37 : decode cX10_make 37 = .ok (.dup, 1) := by decide +kernel
theorem dX10_make_38 : decode cX10_make 38 = .ok (.iload_n 1, 1) := by decide +kernel
theorem dX10_make_39 : decode cX10_make 39 = .ok (.iload_n 2, 1) := by decide +kernel
theorem dX10_make_40 : decode cX10_make 40 = .ok (.iload_n 3, 1) := by decide +kernel
theorem dX10_make_41 : decode cX10_make 41 = .ok (.lload 4, 2) := by decide +kernel
theorem dX10_make_43 : decode cX10_make 43 = .ok (.invokespecial 116, 3) := by decide +kernel
theorem dX10_make_46 : decode cX10_make 46 = .ok (.invokespecial 119, 3) := by decide +kernel
theorem dX10_make_49 : decode cX10_make 49 = .ok (.astore 6, 2) := by decide +kernel
theorem dX10_make_51 : decode cX10_make 51 = .ok (.iload_n 2, 1) := by decide +kernel
theorem dX10_make_52 : decode cX10_make 52 = .ok (.iconst 1, 1) := by decide +kernel
theorem dX10_make_53 : decode cX10_make 53 = .ok (.if_icmp .ne 11, 3) := by decide +kernel
theorem dX10_make_56 : decode cX10_make 56 = .ok (.aload 6, 2) := by decide +kernel
theorem dX10_make_58 : decode cX10_make 58 = .ok (.invokevirtual 122, 3) := by decide +kernel
theorem dX10_make_61 : decode cX10_make 61 = .ok (.goto 8, 3) := by decide +kernel
theorem dX10_make_64 : decode cX10_make 64 = .ok (.aload 6, 2) := by decide +kernel
theorem dX10_make_66 : decode cX10_make 66 = .ok (.invokevirtual 125, 3) := by decide +kernel
theorem dX10_make_69 : decode cX10_make 69 = .ok (.aload_n 0, 1) := by decide +kernel
theorem dX10_make_70 : decode cX10_make 70 = .ok (.getfield 68, 3) := by decide +kernel
theorem dX10_make_73 : decode cX10_make 73 = .ok (.iconst 1, 1) := by decide +kernel
theorem dX10_make_74 : decode cX10_make 74 = .ok (.isub, 1) := by decide +kernel
theorem dX10_make_75 : decode cX10_make 75 = .ok (.ireturn, 1) := by decide +kernel
theorem dX10_drop_0 : decode cX10_drop 0 = .ok (.aload_n 0, 1) := by decide +kernel
theorem dX10_drop_1 : decode cX10_drop 1 = .ok (.getfield 68, 3) := by decide +kernel
theorem dX10_drop_4 : decode cX10_drop 4 = .ok (.ifCond .ne 5, 3) := by decide +kernel
theorem dX10_drop_7 : decode cX10_drop 7 = .ok (.iconst (-1), 1) := by decide +kernel
theorem dX10_drop_8 : decode cX10_drop 8 = .ok (.ireturn, 1) := by decide +kernel
theorem dX10_drop_9 : decode cX10_drop 9 = .ok (.aload_n 0, 1) := by decide +kernel
theorem dX10_drop_10 : decode cX10_drop 10 = .ok (.dup, 1) := by decide +kernel
theorem dX10_drop_11 : decode cX10_drop 11 = .ok (.getfield 68, 3) := by decide +kernel
theorem dX10_drop_14 : decode cX10_drop 14 = .ok (.iconst 1, 1) := by decide +kernel
theorem dX10_drop_15 : decode cX10_drop 15 = .ok (.isub, 1) := by decide +kernel
theorem dX10_drop_16 : decode cX10_drop 16 = .ok (.putfield 68, 3) := by decide +kernel
theorem dX10_drop_19 : decode cX10_drop 19 = .ok (.aload_n 0, 1) := by decide +kernel
theorem dX10_drop_20 : decode cX10_drop 20 = .ok (.getfield 39, 3) := by decide +kernel
theorem dX10_drop_23 : decode cX10_drop 23 = .ok (.aload_n 0, 1) := by decide +kernel
theorem dX10_drop_24 : decode cX10_drop 24 = .ok (.getfield 68, 3) := by decide +kernel
theorem dX10_drop_27 : decode cX10_drop 27 = .ok (.invokevirtual 128, 3) := by decide +kernel
theorem dX10_drop_30 : decode cX10_drop 30 = .ok (.aload_n 0, 1) := by decide +kernel
theorem dX10_drop_31 : decode cX10_drop 31 = .ok (.getfield 68, 3) := by decide +kernel
theorem dX10_drop_34 : decode cX10_drop 34 = .ok (.ireturn, 1) := by decide +kernel
theorem dX10_steps_0 : decode cX10_steps 0 = .ok (.aload_n 0, 1) := by decide +kernel
theorem dX10_steps_1 : decode cX10_steps 1 = .ok (.iload_n 1, 1) := by decide +kernel
theorem dX10_steps_2 : decode cX10_steps 2 = .ok (.invokevirtual 76, 3) := by decide +kernel
theorem dX10_steps_5 : decode cX10_steps 5 = .ok (.astore_n 2, 1) := by decide +kernel
theorem dX10_steps_6 : decode cX10_steps 6 = .ok (.aload_n 2, 1) := by decide +kernel
theorem dX10_steps_7 : decode cX10_steps 7 = .ok (.ifnonnull 7, 3) := by decide +kernel
theorem dX10_steps_10 : decode cX10_steps 10 = .ok (.iconst (-1), 1) := by decide +kernel
theorem dX10_steps_11 : decode cX10_steps 11 = .ok (.goto 7, 3) := by decide +kernel
theorem dX10_steps_14 : decode cX10_steps 14 = .ok (.aload_n 2, 1) := by decide +kernel
theorem dX10_steps_15 : decode cX10_steps 15 = .ok (.getfield 82, 3) := by decide +kernel
theorem dX10_steps_18 : decode cX10_steps 18 = .ok (.ireturn, 1) := by decide +kernel
theorem dX10_told_0 : decode cX10_told 0 = .ok (.aload_n 0, 1) := by decide +kernel
theorem dX10_told_1 : decode cX10_told 1 = .ok (.iload_n 1, 1) := by decide +kernel
theorem dX10_told_2 : decode cX10_told 2 = .ok (.invokevirtual 76, 3) := by decide +kernel
theorem dX10_told_5 : decode cX10_told 5 = .ok (.astore 4, 2) := by decide +kernel
theorem dX10_told_7 : decode cX10_told 7 = .ok (.aload 4, 2) := by decide +kernel
theorem dX10_told_9 : decode cX10_told 9 = .ok (.ifnull 12, 3) := by decide +kernel
theorem dX10_told_12 : decode cX10_told 12 = .ok (.aload 4, 2) := by decide +kernel
theorem dX10_told_14 : decode cX10_told 14 = .ok (.iload_n 2, 1) := by decide +kernel
theorem dX10_told_15 : decode cX10_told 15 = .ok (.invokevirtual 132, 3) := by decide +kernel
theorem dX10_told_18 : decode cX10_told 18 = .ok (.ifCond .ne 7, 3) := by decide +kernel
theorem dX10_told_21 : decode cX10_told 21 = .ok (.ldc2_w 135, 3) := by decide +kernel
theorem dX10_told_24 : decode cX10_told 24 = .ok (.lreturn, 1) := by decide +kernel
theorem dX10_told_25 : decode cX10_told 25 = .ok (.iload_n 3, 1) := by decide +kernel
theorem dX10_told_26 : decode cX10_told 26 = .ok (.tableswitch 52 0 2 #[26, 35, 44], 26) := by decide +kernel
theorem dX10_told_52 : decode cX10_told 52 = .ok (.aload 4, 2) := by decide +kernel
theorem dX10_told_54 : decode cX10_told 54 = .ok (.getfield 137, 3) := by decide +kernel
theorem dX10_told_57 : decode cX10_told 57 = .ok (.iload_n 2, 1) := by decide +kernel
theorem dX10_told_58 : decode cX10_told 58 = .ok (.iaload, 1) := by decide +kernel
theorem dX10_told_59 : decode cX10_told 59 = .ok (.i2l, 1) := by decide +kernel
theorem dX10_told_60 : decode cX10_told 60 = .ok (.lreturn, 1) := by decide +kernel
theorem dX10_told_61 : decode cX10_told 61 = .ok (.aload 4, 2) := by decide +kernel
theorem dX10_told_63 : decode cX10_told 63 = .ok (.getfield 140, 3) := by decide +kernel
theorem dX10_told_66 : decode cX10_told 66 = .ok (.iload_n 2, 1) := by decide +kernel
theorem dX10_told_67 : decode cX10_told 67 = .ok (.iaload, 1) := by decide +kernel
theorem dX10_told_68 : decode cX10_told 68 = .ok (.i2l, 1) := by decide +kernel
theorem dX10_told_69 : decode cX10_told 69 = .ok (.lreturn, 1) := by decide +kernel
theorem dX10_told_70 : decode cX10_told 70 = .ok (.aload 4, 2) := by decide +kernel
theorem dX10_told_72 : decode cX10_told 72 = .ok (.getfield 143, 3) := by decide +kernel
theorem dX10_told_75 : decode cX10_told 75 = .ok (.iload_n 2, 1) := by decide +kernel
theorem dX10_told_76 : decode cX10_told 76 = .ok (.laload, 1) := by decide +kernel
theorem dX10_told_77 : decode cX10_told 77 = .ok (.lreturn, 1) := by decide +kernel
theorem dX10_told_78 : decode cX10_told 78 = .ok (.ldc2_w 135, 3) := by decide +kernel
theorem dX10_told_81 : decode cX10_told 81 = .ok (.lreturn, 1) := by decide +kernel
theorem dX10_width_0 : decode cX10_width 0 = .ok (.aload_n 0, 1) := by decide +kernel
theorem dX10_width_1 : decode cX10_width 1 = .ok (.iload_n 1, 1) := by decide +kernel
theorem dX10_width_2 : decode cX10_width 2 = .ok (.invokevirtual 76, 3) := by decide +kernel
theorem dX10_width_5 : decode cX10_width 5 = .ok (.astore_n 2, 1) := by decide +kernel
theorem dX10_width_6 : decode cX10_width 6 = .ok (.aload_n 2, 1) := by decide +kernel
theorem dX10_width_7 : decode cX10_width 7 = .ok (.ifnonnull 7, 3) := by decide +kernel
theorem dX10_width_10 : decode cX10_width 10 = .ok (.iconst (-1), 1) := by decide +kernel
theorem dX10_width_11 : decode cX10_width 11 = .ok (.goto 7, 3) := by decide +kernel
theorem dX10_width_14 : decode cX10_width 14 = .ok (.aload_n 2, 1) := by decide +kernel
theorem dX10_width_15 : decode cX10_width 15 = .ok (.getfield 89, 3) := by decide +kernel
theorem dX10_width_18 : decode cX10_width 18 = .ok (.ireturn, 1) := by decide +kernel
theorem dX10_cost_0 : decode cX10_cost 0 = .ok (.aload_n 0, 1) := by decide +kernel
theorem dX10_cost_1 : decode cX10_cost 1 = .ok (.iload_n 1, 1) := by decide +kernel
theorem dX10_cost_2 : decode cX10_cost 2 = .ok (.invokevirtual 76, 3) := by decide +kernel
theorem dX10_cost_5 : decode cX10_cost 5 = .ok (.astore_n 2, 1) := by decide +kernel
theorem dX10_cost_6 : decode cX10_cost 6 = .ok (.aload_n 2, 1) := by decide +kernel
theorem dX10_cost_7 : decode cX10_cost 7 = .ok (.ifnonnull 5, 3) := by decide +kernel
theorem dX10_cost_10 : decode cX10_cost 10 = .ok (.iconst (-1), 1) := by decide +kernel
theorem dX10_cost_11 : decode cX10_cost 11 = .ok (.ireturn, 1) := by decide +kernel
theorem dX10_cost_12 : decode cX10_cost 12 = .ok (.iconst 0, 1) := by decide +kernel
theorem dX10_cost_13 : decode cX10_cost 13 = .ok (.istore_n 3, 1) := by decide +kernel
theorem dX10_cost_14 : decode cX10_cost 14 = .ok (.iconst 0, 1) := by decide +kernel
theorem dX10_cost_15 : decode cX10_cost 15 = .ok (.istore 4, 2) := by decide +kernel
theorem dX10_cost_17 : decode cX10_cost 17 = .ok (.iload 4, 2) := by decide +kernel
theorem dX10_cost_19 : decode cX10_cost 19 = .ok (.aload_n 2, 1) := by decide +kernel
theorem dX10_cost_20 : decode cX10_cost 20 = .ok (.getfield 82, 3) := by decide +kernel
theorem dX10_cost_23 : decode cX10_cost 23 = .ok (.if_icmp .ge 24, 3) := by decide +kernel
theorem dX10_cost_26 : decode cX10_cost 26 = .ok (.iload_n 3, 1) := by decide +kernel
theorem dX10_cost_27 : decode cX10_cost 27 = .ok (.aload_n 0, 1) := by decide +kernel
theorem dX10_cost_28 : decode cX10_cost 28 = .ok (.getfield 15, 3) := by decide +kernel
theorem dX10_cost_31 : decode cX10_cost 31 = .ok (.aload_n 2, 1) := by decide +kernel
theorem dX10_cost_32 : decode cX10_cost 32 = .ok (.getfield 137, 3) := by decide +kernel
theorem dX10_cost_35 : decode cX10_cost 35 = .ok (.iload 4, 2) := by decide +kernel
theorem dX10_cost_37 : decode cX10_cost 37 = .ok (.iaload, 1) := by decide +kernel
theorem dX10_cost_38 : decode cX10_cost 38 = .ok (.iaload, 1) := by decide +kernel
theorem dX10_cost_39 : decode cX10_cost 39 = .ok (.iadd, 1) := by decide +kernel
theorem dX10_cost_40 : decode cX10_cost 40 = .ok (.istore_n 3, 1) := by decide +kernel
theorem dX10_cost_41 : decode cX10_cost 41 = .ok (.iinc 4 1, 3) := by decide +kernel
theorem dX10_cost_44 : decode cX10_cost 44 = .ok (.goto (-27), 3) := by decide +kernel
theorem dX10_cost_47 : decode cX10_cost 47 = .ok (.iload_n 3, 1) := by decide +kernel
theorem dX10_cost_48 : decode cX10_cost 48 = .ok (.ireturn, 1) := by decide +kernel
theorem dX10_price_0 : decode cX10_price 0 = .ok (.iload_n 1, 1) := by decide +kernel
theorem dX10_price_1 : decode cX10_price 1 = .ok (.invokestatic 79, 3) := by decide +kernel
theorem dX10_price_4 : decode cX10_price 4 = .ok (.ifCond .eq 14, 3) := by decide +kernel
theorem dX10_price_7 : decode cX10_price 7 = .ok (.iload_n 2, 1) := by decide +kernel
theorem dX10_price_8 : decode cX10_price 8 = .ok (.iconst 1, 1) := by decide +kernel
theorem dX10_price_9 : decode cX10_price 9 = .ok (.if_icmp .lt 9, 3) := by decide +kernel
theorem dX10_price_12 : decode cX10_price 12 = .ok (.iload_n 2, 1) := by decide +kernel
theorem dX10_price_13 : decode cX10_price 13 = .ok (.bipush 50, 2) := by decide +kernel
theorem dX10_price_15 : decode cX10_price 15 = .ok (.if_icmp .le 5, 3) := by decide +kernel
theorem dX10_price_18 : decode cX10_price 18 = .ok (.iconst (-1), 1) := by decide +kernel
theorem dX10_price_19 : decode cX10_price 19 = .ok (.ireturn, 1) := by decide +kernel
theorem dX10_price_20 : decode cX10_price 20 = .ok (.aload_n 0, 1) := by decide +kernel
theorem dX10_price_21 : decode cX10_price 21 = .ok (.getfield 15, 3) := by decide +kernel
theorem dX10_price_24 : decode cX10_price 24 = .ok (.iload_n 1, 1) := by decide +kernel
theorem dX10_price_25 : decode cX10_price 25 = .ok (.iaload, 1) := by decide +kernel
theorem dX10_price_26 : decode cX10_price 26 = .ok (.istore_n 3, 1) := by decide +kernel
theorem dX10_price_27 : decode cX10_price 27 = .ok (.aload_n 0, 1) := by decide +kernel
theorem dX10_price_28 : decode cX10_price 28 = .ok (.getfield 15, 3) := by decide +kernel
theorem dX10_price_31 : decode cX10_price 31 = .ok (.iload_n 1, 1) := by decide +kernel
theorem dX10_price_32 : decode cX10_price 32 = .ok (.iload_n 2, 1) := by decide +kernel
theorem dX10_price_33 : decode cX10_price 33 = .ok (.iastore, 1) := by decide +kernel
theorem dX10_price_34 : decode cX10_price 34 = .ok (.aload_n 0, 1) := by decide +kernel
theorem dX10_price_35 : decode cX10_price 35 = .ok (.getfield 39, 3) := by decide +kernel
theorem dX10_price_38 : decode cX10_price 38 = .ok (.new 100, 3) := by decide +kernel
theorem dX10_price_41 : decode cX10_price 41 = .ok (.dup, 1) := by decide +kernel
theorem dX10_price_42 : decode cX10_price 42 = .ok (.iconst 2, 1) := by decide +kernel
theorem dX10_price_43 : decode cX10_price 43 = .ok (.iload_n 1, 1) := by decide +kernel
theorem dX10_price_44 : decode cX10_price 44 = .ok (.iconst 0, 1) := by decide +kernel
theorem dX10_price_45 : decode cX10_price 45 = .ok (.iload_n 3, 1) := by decide +kernel
theorem dX10_price_46 : decode cX10_price 46 = .ok (.i2l, 1) := by decide +kernel
theorem dX10_price_47 : decode cX10_price 47 = .ok (.aconst_null, 1) := by decide +kernel
theorem dX10_price_48 : decode cX10_price 48 = .ok (.invokespecial 102, 3) := by decide +kernel
theorem dX10_price_51 : decode cX10_price 51 = .ok (.invokevirtual 105, 3) := by decide +kernel
theorem dX10_price_54 : decode cX10_price 54 = .ok (.iload_n 3, 1) := by decide +kernel
theorem dX10_price_55 : decode cX10_price 55 = .ok (.ireturn, 1) := by decide +kernel
theorem dX10_run_0 : decode cX10_run 0 = .ok (.aload_n 0, 1) := by decide +kernel
theorem dX10_run_1 : decode cX10_run 1 = .ok (.iload_n 1, 1) := by decide +kernel
theorem dX10_run_2 : decode cX10_run 2 = .ok (.invokevirtual 76, 3) := by decide +kernel
theorem dX10_run_5 : decode cX10_run 5 = .ok (.astore 4, 2) := by decide +kernel
theorem dX10_run_7 : decode cX10_run 7 = .ok (.aload 4, 2) := by decide +kernel
theorem dX10_run_9 : decode cX10_run 9 = .ok (.ifnonnull 5, 3) := by decide +kernel
theorem dX10_run_12 : decode cX10_run 12 = .ok (.lconst 0, 1) := by decide +kernel
theorem dX10_run_13 : decode cX10_run 13 = .ok (.lreturn, 1) := by decide +kernel
theorem dX10_run_14 : decode cX10_run 14 = .ok (.aload 4, 2) := by decide +kernel
theorem dX10_run_16 : decode cX10_run 16 = .ok (.lload_n 2, 1) := by decide +kernel
theorem dX10_run_17 : decode cX10_run 17 = .ok (.aload 4, 2) := by decide +kernel
theorem dX10_run_19 : decode cX10_run 19 = .ok (.getfield 82, 3) := by decide +kernel
theorem dX10_run_22 : decode cX10_run 22 = .ok (.aload_n 0, 1) := by decide +kernel
theorem dX10_run_23 : decode cX10_run 23 = .ok (.getfield 50, 3) := by decide +kernel
theorem dX10_run_26 : decode cX10_run 26 = .ok (.invokevirtual 146, 3) := by decide +kernel
theorem dX10_run_29 : decode cX10_run 29 = .ok (.aload_n 0, 1) := by decide +kernel
theorem dX10_run_30 : decode cX10_run 30 = .ok (.getfield 50, 3) := by decide +kernel
theorem dX10_run_33 : decode cX10_run 33 = .ok (.aload 4, 2) := by decide +kernel
theorem dX10_run_35 : decode cX10_run 35 = .ok (.getfield 82, 3) := by decide +kernel
theorem dX10_run_38 : decode cX10_run 38 = .ok (.laload, 1) := by decide +kernel
theorem dX10_run_39 : decode cX10_run 39 = .ok (.lreturn, 1) := by decide +kernel
theorem dX10_end_0 : decode cX10_end 0 = .ok (.aload_n 0, 1) := by decide +kernel
theorem dX10_end_1 : decode cX10_end 1 = .ok (.iload_n 1, 1) := by decide +kernel
theorem dX10_end_2 : decode cX10_end 2 = .ok (.invokevirtual 76, 3) := by decide +kernel
theorem dX10_end_5 : decode cX10_end 5 = .ok (.astore 5, 2) := by decide +kernel
theorem dX10_end_7 : decode cX10_end 7 = .ok (.aload 5, 2) := by decide +kernel
theorem dX10_end_9 : decode cX10_end 9 = .ok (.ifnull 13, 3) := by decide +kernel
theorem dX10_end_12 : decode cX10_end 12 = .ok (.aload 5, 2) := by decide +kernel
theorem dX10_end_14 : decode cX10_end 14 = .ok (.iload 4, 2) := by decide +kernel
theorem dX10_end_16 : decode cX10_end 16 = .ok (.invokevirtual 132, 3) := by decide +kernel
theorem dX10_end_19 : decode cX10_end 19 = .ok (.ifCond .ne 5, 3) := by decide +kernel
theorem dX10_end_22 : decode cX10_end 22 = .ok (.lconst 0, 1) := by decide +kernel
theorem dX10_end_23 : decode cX10_end 23 = .ok (.lreturn, 1) := by decide +kernel
theorem dX10_end_24 : decode cX10_end 24 = .ok (.aload 5, 2) := by decide +kernel
theorem dX10_end_26 : decode cX10_end 26 = .ok (.lload_n 2, 1) := by decide +kernel
theorem dX10_end_27 : decode cX10_end 27 = .ok (.iload 4, 2) := by decide +kernel
theorem dX10_end_29 : decode cX10_end 29 = .ok (.iconst 1, 1) := by decide +kernel
theorem dX10_end_30 : decode cX10_end 30 = .ok (.iadd, 1) := by decide +kernel
theorem dX10_end_31 : decode cX10_end 31 = .ok (.aload_n 0, 1) := by decide +kernel
theorem dX10_end_32 : decode cX10_end 32 = .ok (.getfield 50, 3) := by decide +kernel
theorem dX10_end_35 : decode cX10_end 35 = .ok (.invokevirtual 146, 3) := by decide +kernel
theorem dX10_end_38 : decode cX10_end 38 = .ok (.aload_n 0, 1) := by decide +kernel
theorem dX10_end_39 : decode cX10_end 39 = .ok (.getfield 50, 3) := by decide +kernel
theorem dX10_end_42 : decode cX10_end 42 = .ok (.iload 4, 2) := by decide +kernel
theorem dX10_end_44 : decode cX10_end 44 = .ok (.iconst 1, 1) := by decide +kernel
theorem dX10_end_45 : decode cX10_end 45 = .ok (.iadd, 1) := by decide +kernel
theorem dX10_end_46 : decode cX10_end 46 = .ok (.laload, 1) := by decide +kernel
theorem dX10_end_47 : decode cX10_end 47 = .ok (.lreturn, 1) := by decide +kernel
theorem dX10_fails_0 : decode cX10_fails 0 = .ok (.aload_n 0, 1) := by decide +kernel
theorem dX10_fails_1 : decode cX10_fails 1 = .ok (.iload_n 1, 1) := by decide +kernel
theorem dX10_fails_2 : decode cX10_fails 2 = .ok (.invokevirtual 76, 3) := by decide +kernel
theorem dX10_fails_5 : decode cX10_fails 5 = .ok (.astore 6, 2) := by decide +kernel
theorem dX10_fails_7 : decode cX10_fails 7 = .ok (.aload 6, 2) := by decide +kernel
theorem dX10_fails_9 : decode cX10_fails 9 = .ok (.ifnull 28, 3) := by decide +kernel
theorem dX10_fails_12 : decode cX10_fails 12 = .ok (.aload 6, 2) := by decide +kernel
theorem dX10_fails_14 : decode cX10_fails 14 = .ok (.getfield 89, 3) := by decide +kernel
theorem dX10_fails_17 : decode cX10_fails 17 = .ok (.bipush 16, 2) := by decide +kernel
theorem dX10_fails_19 : decode cX10_fails 19 = .ok (.if_icmp .gt 18, 3) := by decide +kernel
theorem dX10_fails_22 : decode cX10_fails 22 = .ok (.aload 6, 2) := by decide +kernel
theorem dX10_fails_24 : decode cX10_fails 24 = .ok (.getfield 89, 3) := by decide +kernel
theorem dX10_fails_27 : decode cX10_fails 27 = .ok (.iload_n 2, 1) := by decide +kernel
theorem dX10_fails_28 : decode cX10_fails 28 = .ok (.iload_n 3, 1) := by decide +kernel
theorem dX10_fails_29 : decode cX10_fails 29 = .ok (.lload 4, 2) := by decide +kernel
theorem dX10_fails_31 : decode cX10_fails 31 = .ok (.invokestatic 108, 3) := by decide +kernel
theorem dX10_fails_34 : decode cX10_fails 34 = .ok (.ifCond .ne 5, 3) := by decide +kernel
theorem dX10_fails_37 : decode cX10_fails 37 = .ok (.iconst (-1), 1) := by decide +kernel
theorem dX10_fails_38 : decode cX10_fails 38 = .ok (.ireturn, 1) := by decide +kernel
theorem dX10_fails_39 : decode cX10_fails 39 = .ok (.new 109, 3) := by decide +kernel
theorem dX10_fails_42 : decode cX10_fails 42 = .ok (.dup, 1) := by decide +kernel
theorem dX10_fails_43 : decode cX10_fails 43 = .ok (.aload 6, 2) := by decide +kernel
theorem dX10_fails_45 : decode cX10_fails 45 = .ok (.getfield 89, 3) := by decide +kernel
theorem dX10_fails_48 : decode cX10_fails 48 = .ok (.iload_n 2, 1) := by decide +kernel
theorem dX10_fails_49 : decode cX10_fails 49 = .ok (.iload_n 3, 1) := by decide +kernel
theorem dX10_fails_50 : decode cX10_fails 50 = .ok (.lload 4, 2) := by decide +kernel
theorem dX10_fails_52 : decode cX10_fails 52 = .ok (.invokespecial 116, 3) := by decide +kernel
theorem dX10_fails_55 : decode cX10_fails 55 = .ok (.astore 7, 2) := by decide +kernel
theorem dX10_fails_57 : decode cX10_fails 57 = .ok (.iconst 1, 1) := by decide +kernel
theorem dX10_fails_58 : decode cX10_fails 58 = .ok (.aload 6, 2) := by decide +kernel
theorem dX10_fails_60 : decode cX10_fails 60 = .ok (.getfield 89, 3) := by decide +kernel
theorem dX10_fails_63 : decode cX10_fails 63 = .ok (.ishl, 1) := by decide +kernel
theorem dX10_fails_64 : decode cX10_fails 64 = .ok (.istore 8, 2) := by decide +kernel
theorem dX10_fails_66 : decode cX10_fails 66 = .ok (.iconst 0, 1) := by decide +kernel
theorem dX10_fails_67 : decode cX10_fails 67 = .ok (.istore 9, 2) := by decide +kernel
theorem dX10_fails_69 : decode cX10_fails 69 = .ok (.iload 9, 2) := by decide +kernel
theorem dX10_fails_71 : decode cX10_fails 71 = .ok (.iload 8, 2) := by decide +kernel
theorem dX10_fails_73 : decode cX10_fails 73 = .ok (.if_icmp .ge 62, 3) := by decide +kernel
theorem dX10_fails_76 : decode cX10_fails 76 = .ok (.aload 6, 2) := by decide +kernel
theorem dX10_fails_78 : decode cX10_fails 78 = .ok (.iload 9, 2) := by decide +kernel
theorem dX10_fails_80 : decode cX10_fails 80 = .ok (.i2l, 1) := by decide +kernel
theorem dX10_fails_81 : decode cX10_fails 81 = .ok (.aload 6, 2) := by decide +kernel
theorem dX10_fails_83 : decode cX10_fails 83 = .ok (.getfield 82, 3) := by decide +kernel
theorem dX10_fails_86 : decode cX10_fails 86 = .ok (.aload_n 0, 1) := by decide +kernel
theorem dX10_fails_87 : decode cX10_fails 87 = .ok (.getfield 50, 3) := by decide +kernel
theorem dX10_fails_90 : decode cX10_fails 90 = .ok (.invokevirtual 146, 3) := by decide +kernel
theorem dX10_fails_93 : decode cX10_fails 93 = .ok (.aload_n 0, 1) := by decide +kernel
theorem dX10_fails_94 : decode cX10_fails 94 = .ok (.getfield 50, 3) := by decide +kernel
theorem dX10_fails_97 : decode cX10_fails 97 = .ok (.aload 6, 2) := by decide +kernel
theorem dX10_fails_99 : decode cX10_fails 99 = .ok (.getfield 82, 3) := by decide +kernel
theorem dX10_fails_102 : decode cX10_fails 102 = .ok (.laload, 1) := by decide +kernel
theorem dX10_fails_103 : decode cX10_fails 103 = .ok (.aload 7, 2) := by decide +kernel
theorem dX10_fails_105 : decode cX10_fails 105 = .ok (.iload 9, 2) := by decide +kernel
theorem dX10_fails_107 : decode cX10_fails 107 = .ok (.i2l, 1) := by decide +kernel
theorem dX10_fails_108 : decode cX10_fails 108 = .ok (.invokevirtual 150, 3) := by decide +kernel
theorem dX10_fails_111 : decode cX10_fails 111 = .ok (.lcmp, 1) := by decide +kernel
theorem dX10_fails_112 : decode cX10_fails 112 = .ok (.ifCond .eq 17, 3) := by decide +kernel
theorem dX10_fails_115 : decode cX10_fails 115 = .ok (.aload 7, 2) := by decide +kernel
theorem dX10_fails_117 : decode cX10_fails 117 = .ok (.iload 9, 2) := by decide +kernel
theorem dX10_fails_119 : decode cX10_fails 119 = .ok (.i2l, 1) := by decide +kernel
theorem dX10_fails_120 : decode cX10_fails 120 = .ok (.invokevirtual 154, 3) := by decide +kernel
theorem dX10_fails_123 : decode cX10_fails 123 = .ok (.ifCond .eq 6, 3) := by decide +kernel
theorem dX10_fails_126 : decode cX10_fails 126 = .ok (.iload 9, 2) := by decide +kernel
theorem dX10_fails_128 : decode cX10_fails 128 = .ok (.ireturn, 1) := by decide +kernel
theorem dX10_fails_129 : decode cX10_fails 129 = .ok (.iinc 9 1, 3) := by decide +kernel
theorem dX10_fails_132 : decode cX10_fails 132 = .ok (.goto (-63), 3) := by decide +kernel
theorem dX10_fails_135 : decode cX10_fails 135 = .ok (.bipush (-3), 2) := by decide +kernel
theorem dX10_fails_137 : decode cX10_fails 137 = .ok (.ireturn, 1) := by decide +kernel
theorem dX10_plain_0 : decode cX10_plain 0 = .ok (.iload_n 1, 1) := by decide +kernel
theorem dX10_plain_1 : decode cX10_plain 1 = .ok (.iload_n 2, 1) := by decide +kernel
theorem dX10_plain_2 : decode cX10_plain 2 = .ok (.iload_n 3, 1) := by decide +kernel
theorem dX10_plain_3 : decode cX10_plain 3 = .ok (.lload 4, 2) := by decide +kernel
theorem dX10_plain_5 : decode cX10_plain 5 = .ok (.invokestatic 108, 3) := by decide +kernel
theorem dX10_plain_8 : decode cX10_plain 8 = .ok (.ifCond .ne 5, 3) := by decide +kernel
theorem dX10_plain_11 : decode cX10_plain 11 = .ok (.lconst 0, 1) := by decide +kernel
theorem dX10_plain_12 : decode cX10_plain 12 = .ok (.lreturn, 1) := by decide +kernel
theorem dX10_plain_13 : decode cX10_plain 13 = .ok (.new 109, 3) := by decide +kernel
theorem dX10_plain_16 : decode cX10_plain 16 = .ok (.dup, 1) := by decide +kernel
theorem dX10_plain_17 : decode cX10_plain 17 = .ok (.iload_n 1, 1) := by decide +kernel
theorem dX10_plain_18 : decode cX10_plain 18 = .ok (.iload_n 2, 1) := by decide +kernel
theorem dX10_plain_19 : decode cX10_plain 19 = .ok (.iload_n 3, 1) := by decide +kernel
theorem dX10_plain_20 : decode cX10_plain 20 = .ok (.lload 4, 2) := by decide +kernel
theorem dX10_plain_22 : decode cX10_plain 22 = .ok (.invokespecial 116, 3) := by decide +kernel
theorem dX10_plain_25 : decode cX10_plain 25 = .ok (.lload 6, 2) := by decide +kernel
theorem dX10_plain_27 : decode cX10_plain 27 = .ok (.invokevirtual 150, 3) := by decide +kernel
theorem dX10_plain_30 : decode cX10_plain 30 = .ok (.lreturn, 1) := by decide +kernel
theorem dX10_proof_0 : decode cX10_proof 0 = .ok (.iload_n 1, 1) := by decide +kernel
theorem dX10_proof_1 : decode cX10_proof 1 = .ok (.invokestatic 62, 3) := by decide +kernel
theorem dX10_proof_4 : decode cX10_proof 4 = .ok (.ifCond .eq 14, 3) := by decide +kernel
theorem dX10_proof_7 : decode cX10_proof 7 = .ok (.iload 4, 2) := by decide +kernel
theorem dX10_proof_9 : decode cX10_proof 9 = .ok (.ifCond .lt 9, 3) := by decide +kernel
theorem dX10_proof_12 : decode cX10_proof 12 = .ok (.iload 4, 2) := by decide +kernel
theorem dX10_proof_14 : decode cX10_proof 14 = .ok (.iconst 3, 1) := by decide +kernel
theorem dX10_proof_15 : decode cX10_proof 15 = .ok (.if_icmp .le 7, 3) := by decide +kernel
theorem dX10_proof_18 : decode cX10_proof 18 = .ok (.ldc2_w 135, 3) := by decide +kernel
theorem dX10_proof_21 : decode cX10_proof 21 = .ok (.lreturn, 1) := by decide +kernel
theorem dX10_proof_22 : decode cX10_proof 22 = .ok (.lload_n 2, 1) := by decide +kernel
theorem dX10_proof_23 : decode cX10_proof 23 = .ok (.iload_n 1, 1) := by decide +kernel
theorem dX10_proof_24 : decode cX10_proof 24 = .ok (.invokestatic 92, 3) := by decide +kernel
theorem dX10_proof_27 : decode cX10_proof 27 = .ok (.land, 1) := by decide +kernel
theorem dX10_proof_28 : decode cX10_proof 28 = .ok (.lstore 5, 2) := by decide +kernel
theorem dX10_proof_30 : decode cX10_proof 30 = .ok (.lload 5, 2) := by decide +kernel
theorem dX10_proof_32 : decode cX10_proof 32 = .ok (.lconst 0, 1) := by decide +kernel
theorem dX10_proof_33 : decode cX10_proof 33 = .ok (.lcmp, 1) := by decide +kernel
theorem dX10_proof_34 : decode cX10_proof 34 = .ok (.ifCond .ne 7, 3) := by decide +kernel
theorem dX10_proof_37 : decode cX10_proof 37 = .ok (.ldc2_w 135, 3) := by decide +kernel
theorem dX10_proof_40 : decode cX10_proof 40 = .ok (.lreturn, 1) := by decide +kernel
theorem dX10_proof_41 : decode cX10_proof 41 = .ok (.lload 5, 2) := by decide +kernel
theorem dX10_proof_43 : decode cX10_proof 43 = .ok (.lload 5, 2) := by decide +kernel
theorem dX10_proof_45 : decode cX10_proof 45 = .ok (.lconst 1, 1) := by decide +kernel
theorem dX10_proof_46 : decode cX10_proof 46 = .ok (.lsub, 1) := by decide +kernel
theorem dX10_proof_47 : decode cX10_proof 47 = .ok (.land, 1) := by decide +kernel
theorem dX10_proof_48 : decode cX10_proof 48 = .ok (.lconst 0, 1) := by decide +kernel
theorem dX10_proof_49 : decode cX10_proof 49 = .ok (.lcmp, 1) := by decide +kernel
theorem dX10_proof_50 : decode cX10_proof 50 = .ok (.ifCond .ne 5, 3) := by decide +kernel
theorem dX10_proof_53 : decode cX10_proof 53 = .ok (.lconst 0, 1) := by decide +kernel
theorem dX10_proof_54 : decode cX10_proof 54 = .ok (.lreturn, 1) := by decide +kernel
theorem dX10_proof_55 : decode cX10_proof 55 = .ok (.new 158, 3) := by decide +kernel
theorem dX10_proof_58 : decode cX10_proof 58 = .ok (.dup, 1) := by decide +kernel
theorem dX10_proof_59 : decode cX10_proof 59 = .ok (.iload_n 1, 1) := by decide +kernel
theorem dX10_proof_60 : decode cX10_proof 60 = .ok (.lload 5, 2) := by decide +kernel
theorem dX10_proof_62 : decode cX10_proof 62 = .ok (.iconst 0, 1) := by decide +kernel
theorem dX10_proof_63 : decode cX10_proof 63 = .ok (.invokespecial 160, 3) := by decide +kernel
theorem dX10_proof_66 : decode cX10_proof 66 = .ok (.astore 7, 2) := by decide +kernel
theorem dX10_proof_68 : decode cX10_proof 68 = .ok (.iload 4, 2) := by decide +kernel
theorem dX10_proof_70 : decode cX10_proof 70 = .ok (.tableswitch 53 0 2 #[26, 33, 39], 26) := by decide +kernel
theorem dX10_proof_96 : decode cX10_proof 96 = .ok (.aload 7, 2) := by decide +kernel
theorem dX10_proof_98 : decode cX10_proof 98 = .ok (.getfield 163, 3) := by decide +kernel
theorem dX10_proof_101 : decode cX10_proof 101 = .ok (.i2l, 1) := by decide +kernel
theorem dX10_proof_102 : decode cX10_proof 102 = .ok (.lreturn, 1) := by decide +kernel
theorem dX10_proof_103 : decode cX10_proof 103 = .ok (.aload 7, 2) := by decide +kernel
theorem dX10_proof_105 : decode cX10_proof 105 = .ok (.getfield 166, 3) := by decide +kernel
theorem dX10_proof_108 : decode cX10_proof 108 = .ok (.lreturn, 1) := by decide +kernel
theorem dX10_proof_109 : decode cX10_proof 109 = .ok (.aload 7, 2) := by decide +kernel
theorem dX10_proof_111 : decode cX10_proof 111 = .ok (.getfield 170, 3) := by decide +kernel
theorem dX10_proof_114 : decode cX10_proof 114 = .ok (.ifCond .eq 7, 3) := by decide +kernel
theorem dX10_proof_117 : decode cX10_proof 117 = .ok (.lconst 1, 1) := by decide +kernel
theorem dX10_proof_118 : decode cX10_proof 118 = .ok (.goto 4, 3) := by decide +kernel
theorem dX10_proof_121 : decode cX10_proof 121 = .ok (.lconst 0, 1) := by decide +kernel
theorem dX10_proof_122 : decode cX10_proof 122 = .ok (.lreturn, 1) := by decide +kernel
theorem dX10_proof_123 : decode cX10_proof 123 = .ok (.aload 7, 2) := by decide +kernel
theorem dX10_proof_125 : decode cX10_proof 125 = .ok (.getfield 174, 3) := by decide +kernel
theorem dX10_proof_128 : decode cX10_proof 128 = .ok (.lreturn, 1) := by decide +kernel
theorem dX10_check_0 : decode cX10_check 0 = .ok (.iload_n 1, 1) := by decide +kernel
theorem dX10_check_1 : decode cX10_check 1 = .ok (.invokestatic 62, 3) := by decide +kernel
theorem dX10_check_4 : decode cX10_check 4 = .ok (.ifCond .eq 25, 3) := by decide +kernel
theorem dX10_check_7 : decode cX10_check 7 = .ok (.iload 4, 2) := by decide +kernel
theorem dX10_check_9 : decode cX10_check 9 = .ok (.ifCond .lt 20, 3) := by decide +kernel
theorem dX10_check_12 : decode cX10_check 12 = .ok (.iload 4, 2) := by decide +kernel
theorem dX10_check_14 : decode cX10_check 14 = .ok (.iload_n 1, 1) := by decide +kernel
theorem dX10_check_15 : decode cX10_check 15 = .ok (.if_icmp .gt 14, 3) := by decide +kernel
theorem dX10_check_18 : decode cX10_check 18 = .ok (.iload 7, 2) := by decide +kernel
theorem dX10_check_20 : decode cX10_check 20 = .ok (.ifCond .lt 9, 3) := by decide +kernel
theorem dX10_check_23 : decode cX10_check 23 = .ok (.iload 7, 2) := by decide +kernel
theorem dX10_check_25 : decode cX10_check 25 = .ok (.iconst 1, 1) := by decide +kernel
theorem dX10_check_26 : decode cX10_check 26 = .ok (.if_icmp .le 5, 3) := by decide +kernel
theorem dX10_check_29 : decode cX10_check 29 = .ok (.iconst (-1), 1) := by decide +kernel
theorem dX10_check_30 : decode cX10_check 30 = .ok (.ireturn, 1) := by decide +kernel
theorem dX10_check_31 : decode cX10_check 31 = .ok (.iload_n 1, 1) := by decide +kernel
theorem dX10_check_32 : decode cX10_check 32 = .ok (.invokestatic 92, 3) := by decide +kernel
theorem dX10_check_35 : decode cX10_check 35 = .ok (.lstore 8, 2) := by decide +kernel
theorem dX10_check_37 : decode cX10_check 37 = .ok (.lload_n 2, 1) := by decide +kernel
theorem dX10_check_38 : decode cX10_check 38 = .ok (.lload 8, 2) := by decide +kernel
theorem dX10_check_40 : decode cX10_check 40 = .ok (.land, 1) := by decide +kernel
theorem dX10_check_41 : decode cX10_check 41 = .ok (.lstore 10, 2) := by decide +kernel
theorem dX10_check_43 : decode cX10_check 43 = .ok (.lload 10, 2) := by decide +kernel
theorem dX10_check_45 : decode cX10_check 45 = .ok (.lconst 0, 1) := by decide +kernel
theorem dX10_check_46 : decode cX10_check 46 = .ok (.lcmp, 1) := by decide +kernel
theorem dX10_check_47 : decode cX10_check 47 = .ok (.ifCond .ne 5, 3) := by decide +kernel
theorem dX10_check_50 : decode cX10_check 50 = .ok (.iconst (-1), 1) := by decide +kernel
theorem dX10_check_51 : decode cX10_check 51 = .ok (.ireturn, 1) := by decide +kernel
theorem dX10_check_52 : decode cX10_check 52 = .ok (.lload 5, 2) := by decide +kernel
theorem dX10_check_54 : decode cX10_check 54 = .ok (.lload 8, 2) := by decide +kernel
theorem dX10_check_56 : decode cX10_check 56 = .ok (.land, 1) := by decide +kernel
theorem dX10_check_57 : decode cX10_check 57 = .ok (.lstore 12, 2) := by decide +kernel
theorem dX10_check_59 : decode cX10_check 59 = .ok (.lload 12, 2) := by decide +kernel
theorem dX10_check_61 : decode cX10_check 61 = .ok (.lload 10, 2) := by decide +kernel
theorem dX10_check_63 : decode cX10_check 63 = .ok (.lmul, 1) := by decide +kernel
theorem dX10_check_64 : decode cX10_check 64 = .ok (.lload 8, 2) := by decide +kernel
theorem dX10_check_66 : decode cX10_check 66 = .ok (.land, 1) := by decide +kernel
theorem dX10_check_67 : decode cX10_check 67 = .ok (.lstore 14, 2) := by decide +kernel
theorem dX10_check_69 : decode cX10_check 69 = .ok (.iload_n 1, 1) := by decide +kernel
theorem dX10_check_70 : decode cX10_check 70 = .ok (.lload 12, 2) := by decide +kernel
theorem dX10_check_72 : decode cX10_check 72 = .ok (.lload 10, 2) := by decide +kernel
theorem dX10_check_74 : decode cX10_check 74 = .ok (.invokestatic 177, 3) := by decide +kernel
theorem dX10_check_77 : decode cX10_check 77 = .ok (.lstore 16, 2) := by decide +kernel
theorem dX10_check_79 : decode cX10_check 79 = .ok (.iconst 0, 1) := by decide +kernel
theorem dX10_check_80 : decode cX10_check 80 = .ok (.istore 18, 2) := by decide +kernel
theorem dX10_check_82 : decode cX10_check 82 = .ok (.iload 7, 2) := by decide +kernel
theorem dX10_check_84 : decode cX10_check 84 = .ok (.iconst 1, 1) := by decide +kernel
theorem dX10_check_85 : decode cX10_check 85 = .ok (.if_icmp .ne 26, 3) := by decide +kernel
theorem dX10_check_88 : decode cX10_check 88 = .ok (.lload 16, 2) := by decide +kernel
theorem dX10_check_90 : decode cX10_check 90 = .ok (.lload 10, 2) := by decide +kernel
theorem dX10_check_92 : decode cX10_check 92 = .ok (.ladd, 1) := by decide +kernel
theorem dX10_check_93 : decode cX10_check 93 = .ok (.lload 8, 2) := by decide +kernel
theorem dX10_check_95 : decode cX10_check 95 = .ok (.land, 1) := by decide +kernel
theorem dX10_check_96 : decode cX10_check 96 = .ok (.lstore 19, 2) := by decide +kernel
theorem dX10_check_98 : decode cX10_check 98 = .ok (.lload 19, 2) := by decide +kernel
theorem dX10_check_100 : decode cX10_check 100 = .ok (.lload 16, 2) := by decide +kernel
theorem dX10_check_102 : decode cX10_check 102 = .ok (.invokestatic 181, 3) := by decide +kernel
theorem dX10_check_105 : decode cX10_check 105 = .ok (.istore 18, 2) := by decide +kernel
theorem dX10_check_107 : decode cX10_check 107 = .ok (.lload 19, 2) := by decide +kernel
theorem dX10_check_109 : decode cX10_check 109 = .ok (.lstore 16, 2) := by decide +kernel
theorem dX10_check_111 : decode cX10_check 111 = .ok (.iload_n 1, 1) := by decide +kernel
theorem dX10_check_112 : decode cX10_check 112 = .ok (.iload 4, 2) := by decide +kernel
theorem dX10_check_114 : decode cX10_check 114 = .ok (.iload 18, 2) := by decide +kernel
theorem dX10_check_116 : decode cX10_check 116 = .ok (.lload 16, 2) := by decide +kernel
theorem dX10_check_118 : decode cX10_check 118 = .ok (.lload 14, 2) := by decide +kernel
theorem dX10_check_120 : decode cX10_check 120 = .ok (.invokestatic 185, 3) := by decide +kernel
theorem dX10_check_123 : decode cX10_check 123 = .ok (.ifCond .eq 7, 3) := by decide +kernel
theorem dX10_check_126 : decode cX10_check 126 = .ok (.iconst 1, 1) := by decide +kernel
theorem dX10_check_127 : decode cX10_check 127 = .ok (.goto 4, 3) := by decide +kernel
theorem dX10_check_130 : decode cX10_check 130 = .ok (.iconst 0, 1) := by decide +kernel
theorem dX10_check_131 : decode cX10_check 131 = .ok (.ireturn, 1) := by decide +kernel
theorem dX10_inverse_0 : decode cX10_inverse 0 = .ok (.iload_n 1, 1) := by decide +kernel
theorem dX10_inverse_1 : decode cX10_inverse 1 = .ok (.invokestatic 62, 3) := by decide +kernel
theorem dX10_inverse_4 : decode cX10_inverse 4 = .ok (.ifCond .eq 11, 3) := by decide +kernel
theorem dX10_inverse_7 : decode cX10_inverse 7 = .ok (.lload_n 2, 1) := by decide +kernel
theorem dX10_inverse_8 : decode cX10_inverse 8 = .ok (.lconst 1, 1) := by decide +kernel
theorem dX10_inverse_9 : decode cX10_inverse 9 = .ok (.land, 1) := by decide +kernel
theorem dX10_inverse_10 : decode cX10_inverse 10 = .ok (.lconst 0, 1) := by decide +kernel
theorem dX10_inverse_11 : decode cX10_inverse 11 = .ok (.lcmp, 1) := by decide +kernel
theorem dX10_inverse_12 : decode cX10_inverse 12 = .ok (.ifCond .ne 5, 3) := by decide +kernel
theorem dX10_inverse_15 : decode cX10_inverse 15 = .ok (.lconst 0, 1) := by decide +kernel
theorem dX10_inverse_16 : decode cX10_inverse 16 = .ok (.lreturn, 1) := by decide +kernel
theorem dX10_inverse_17 : decode cX10_inverse 17 = .ok (.iload_n 1, 1) := by decide +kernel
theorem dX10_inverse_18 : decode cX10_inverse 18 = .ok (.lload_n 2, 1) := by decide +kernel
theorem dX10_inverse_19 : decode cX10_inverse 19 = .ok (.invokestatic 189, 3) := by decide +kernel
theorem dX10_inverse_22 : decode cX10_inverse 22 = .ok (.lreturn, 1) := by decide +kernel
theorem dX10_tell_0 : decode cX10_tell 0 = .ok (.iload_n 1, 1) := by decide +kernel
theorem dX10_tell_1 : decode cX10_tell 1 = .ok (.ifCond .lt 8, 3) := by decide +kernel
theorem dX10_tell_4 : decode cX10_tell 4 = .ok (.iload_n 1, 1) := by decide +kernel
theorem dX10_tell_5 : decode cX10_tell 5 = .ok (.iconst 4, 1) := by decide +kernel
theorem dX10_tell_6 : decode cX10_tell 6 = .ok (.if_icmp .lt 5, 3) := by decide +kernel
theorem dX10_tell_9 : decode cX10_tell 9 = .ok (.lconst 0, 1) := by decide +kernel
theorem dX10_tell_10 : decode cX10_tell 10 = .ok (.lreturn, 1) := by decide +kernel
theorem dX10_tell_11 : decode cX10_tell 11 = .ok (.aload_n 0, 1) := by decide +kernel
theorem dX10_tell_12 : decode cX10_tell 12 = .ok (.getfield 19, 3) := by decide +kernel
theorem dX10_tell_15 : decode cX10_tell 15 = .ok (.iload_n 1, 1) := by decide +kernel
theorem dX10_tell_16 : decode cX10_tell 16 = .ok (.laload, 1) := by decide +kernel
theorem dX10_tell_17 : decode cX10_tell 17 = .ok (.lstore 4, 2) := by decide +kernel
theorem dX10_tell_19 : decode cX10_tell 19 = .ok (.aload_n 0, 1) := by decide +kernel
theorem dX10_tell_20 : decode cX10_tell 20 = .ok (.getfield 19, 3) := by decide +kernel
theorem dX10_tell_23 : decode cX10_tell 23 = .ok (.iload_n 1, 1) := by decide +kernel
theorem dX10_tell_24 : decode cX10_tell 24 = .ok (.lload_n 2, 1) := by decide +kernel
theorem dX10_tell_25 : decode cX10_tell 25 = .ok (.lastore, 1) := by decide +kernel
theorem dX10_tell_26 : decode cX10_tell 26 = .ok (.aload_n 0, 1) := by decide +kernel
theorem dX10_tell_27 : decode cX10_tell 27 = .ok (.getfield 39, 3) := by decide +kernel
theorem dX10_tell_30 : decode cX10_tell 30 = .ok (.new 100, 3) := by decide +kernel
theorem dX10_tell_33 : decode cX10_tell 33 = .ok (.dup, 1) := by decide +kernel
theorem dX10_tell_34 : decode cX10_tell 34 = .ok (.iconst 3, 1) := by decide +kernel
theorem dX10_tell_35 : decode cX10_tell 35 = .ok (.iload_n 1, 1) := by decide +kernel
theorem dX10_tell_36 : decode cX10_tell 36 = .ok (.iconst 0, 1) := by decide +kernel
theorem dX10_tell_37 : decode cX10_tell 37 = .ok (.lload 4, 2) := by decide +kernel
theorem dX10_tell_39 : decode cX10_tell 39 = .ok (.aconst_null, 1) := by decide +kernel
theorem dX10_tell_40 : decode cX10_tell 40 = .ok (.invokespecial 102, 3) := by decide +kernel
theorem dX10_tell_43 : decode cX10_tell 43 = .ok (.invokevirtual 105, 3) := by decide +kernel
theorem dX10_tell_46 : decode cX10_tell 46 = .ok (.lload 4, 2) := by decide +kernel
theorem dX10_tell_48 : decode cX10_tell 48 = .ok (.lreturn, 1) := by decide +kernel
theorem dX10_least_0 : decode cX10_least 0 = .ok (.iload 5, 2) := by decide +kernel
theorem dX10_least_2 : decode cX10_least 2 = .ok (.iconst 1, 1) := by decide +kernel
theorem dX10_least_3 : decode cX10_least 3 = .ok (.if_icmp .lt 20, 3) := by decide +kernel
theorem dX10_least_6 : decode cX10_least 6 = .ok (.iload 5, 2) := by decide +kernel
theorem dX10_least_8 : decode cX10_least 8 = .ok (.iconst 3, 1) := by decide +kernel
theorem dX10_least_9 : decode cX10_least 9 = .ok (.if_icmp .gt 14, 3) := by decide +kernel
theorem dX10_least_12 : decode cX10_least 12 = .ok (.bipush 8, 2) := by decide +kernel
theorem dX10_least_14 : decode cX10_least 14 = .ok (.iload_n 1, 1) := by decide +kernel
theorem dX10_least_15 : decode cX10_least 15 = .ok (.iload_n 2, 1) := by decide +kernel
theorem dX10_least_16 : decode cX10_least 16 = .ok (.lload_n 3, 1) := by decide +kernel
theorem dX10_least_17 : decode cX10_least 17 = .ok (.invokestatic 108, 3) := by decide +kernel
theorem dX10_least_20 : decode cX10_least 20 = .ok (.ifCond .ne 5, 3) := by decide +kernel
theorem dX10_least_23 : decode cX10_least 23 = .ok (.iconst (-1), 1) := by decide +kernel
theorem dX10_least_24 : decode cX10_least 24 = .ok (.ireturn, 1) := by decide +kernel
theorem dX10_least_25 : decode cX10_least 25 = .ok (.aload_n 0, 1) := by decide +kernel
theorem dX10_least_26 : decode cX10_least 26 = .ok (.getfield 68, 3) := by decide +kernel
theorem dX10_least_29 : decode cX10_least 29 = .ok (.bipush 60, 2) := by decide +kernel
theorem dX10_least_31 : decode cX10_least 31 = .ok (.if_icmp .ge 12, 3) := by decide +kernel
theorem dX10_least_34 : decode cX10_least 34 = .ok (.aload_n 0, 1) := by decide +kernel
theorem dX10_least_35 : decode cX10_least 35 = .ok (.getfield 193, 3) := by decide +kernel
theorem dX10_least_38 : decode cX10_least 38 = .ok (.bipush 12, 2) := by decide +kernel
theorem dX10_least_40 : decode cX10_least 40 = .ok (.if_icmp .lt 6, 3) := by decide +kernel
theorem dX10_least_43 : decode cX10_least 43 = .ok (.bipush (-2), 2) := by decide +kernel
theorem dX10_least_45 : decode cX10_least 45 = .ok (.ireturn, 1) := by decide +kernel
theorem dX10_least_46 : decode cX10_least 46 = .ok (.aload_n 0, 1) := by decide +kernel
theorem dX10_least_47 : decode cX10_least 47 = .ok (.dup, 1) := by decide +kernel
theorem dX10_least_48 : decode cX10_least 48 = .ok (.getfield 193, 3) := by decide +kernel
theorem dX10_least_51 : decode cX10_least 51 = .ok (.iconst 1, 1) := by decide +kernel
theorem dX10_least_52 : decode cX10_least 52 = .ok (.iadd, 1) := by decide +kernel
theorem dX10_least_53 : decode cX10_least 53 = .ok (.putfield 193, 3) := by decide +kernel
theorem dX10_least_56 : decode cX10_least 56 = .ok (.aload_n 0, 1) := by decide +kernel
theorem dX10_least_57 : decode cX10_least 57 = .ok (.getfield 46, 3) := by decide +kernel
theorem dX10_least_60 : decode cX10_least 60 = .ok (.new 109, 3) := by decide +kernel
theorem dX10_least_63 : decode cX10_least 63 = .ok (.dup, 1) := by decide +kernel
theorem dX10_least_64 : decode cX10_least 64 = .ok (.bipush 8, 2) := by decide +kernel
theorem dX10_least_66 : decode cX10_least 66 = .ok (.iload_n 1, 1) := by decide +kernel
theorem dX10_least_67 : decode cX10_least 67 = .ok (.iload_n 2, 1) := by decide +kernel
theorem dX10_least_68 : decode cX10_least 68 = .ok (.lload_n 3, 1) := by decide +kernel
theorem dX10_least_69 : decode cX10_least 69 = .ok (.invokespecial 116, 3) := by decide +kernel
theorem dX10_least_72 : decode cX10_least 72 = .ok (.aload_n 0, 1) := by decide +kernel
theorem dX10_least_73 : decode cX10_least 73 = .ok (.getfield 19, 3) := by decide +kernel
theorem dX10_least_76 : decode cX10_least 76 = .ok (.aload_n 0, 1) := by decide +kernel
theorem dX10_least_77 : decode cX10_least 77 = .ok (.getfield 15, 3) := by decide +kernel
theorem dX10_least_80 : decode cX10_least 80 = .ok (.invokevirtual 196, 3) := by decide +kernel
theorem dX10_least_83 : decode cX10_least 83 = .ok (.iconst 1, 1) := by decide +kernel
theorem dX10_least_84 : decode cX10_least 84 = .ok (.istore 6, 2) := by decide +kernel
theorem dX10_least_86 : decode cX10_least 86 = .ok (.iload 6, 2) := by decide +kernel
theorem dX10_least_88 : decode cX10_least 88 = .ok (.iload 5, 2) := by decide +kernel
theorem dX10_least_90 : decode cX10_least 90 = .ok (.if_icmp .gt 21, 3) := by decide +kernel
theorem dX10_least_93 : decode cX10_least 93 = .ok (.aload_n 0, 1) := by decide +kernel
theorem dX10_least_94 : decode cX10_least 94 = .ok (.getfield 46, 3) := by decide +kernel
theorem dX10_least_97 : decode cX10_least 97 = .ok (.iload 6, 2) := by decide +kernel
theorem dX10_least_99 : decode cX10_least 99 = .ok (.iconst 0, 1) := by decide +kernel
theorem dX10_least_100 : decode cX10_least 100 = .ok (.iconst 0, 1) := by decide +kernel
theorem dX10_least_101 : decode cX10_least 101 = .ok (.iconst 0, 1) := by decide +kernel
theorem dX10_least_102 : decode cX10_least 102 = .ok (.invokevirtual 200, 3) := by decide +kernel
theorem dX10_least_105 : decode cX10_least 105 = .ok (.iinc 6 1, 3) := by decide +kernel
theorem dX10_least_108 : decode cX10_least 108 = .ok (.goto (-22), 3) := by decide +kernel
theorem dX10_least_111 : decode cX10_least 111 = .ok (.aload_n 0, 1) := by decide +kernel
theorem dX10_least_112 : decode cX10_least 112 = .ok (.getfield 46, 3) := by decide +kernel
theorem dX10_least_115 : decode cX10_least 115 = .ok (.getfield 204, 3) := by decide +kernel
theorem dX10_least_118 : decode cX10_least 118 = .ok (.ifCond .ne 6, 3) := by decide +kernel
theorem dX10_least_121 : decode cX10_least 121 = .ok (.bipush (-3), 2) := by decide +kernel
theorem dX10_least_123 : decode cX10_least 123 = .ok (.ireturn, 1) := by decide +kernel
theorem dX10_least_124 : decode cX10_least 124 = .ok (.aload_n 0, 1) := by decide +kernel
theorem dX10_least_125 : decode cX10_least 125 = .ok (.getfield 46, 3) := by decide +kernel
theorem dX10_least_128 : decode cX10_least 128 = .ok (.aload_n 0, 1) := by decide +kernel
theorem dX10_least_129 : decode cX10_least 129 = .ok (.bipush 8, 2) := by decide +kernel
theorem dX10_least_131 : decode cX10_least 131 = .ok (.invokevirtual 72, 3) := by decide +kernel
theorem dX10_least_134 : decode cX10_least 134 = .ok (.invokevirtual 207, 3) := by decide +kernel
theorem dX10_least_137 : decode cX10_least 137 = .ok (.aload_n 0, 1) := by decide +kernel
theorem dX10_least_138 : decode cX10_least 138 = .ok (.getfield 68, 3) := by decide +kernel
theorem dX10_least_141 : decode cX10_least 141 = .ok (.iconst 1, 1) := by decide +kernel
theorem dX10_least_142 : decode cX10_least 142 = .ok (.isub, 1) := by decide +kernel
theorem dX10_least_143 : decode cX10_least 143 = .ok (.ireturn, 1) := by decide +kernel
theorem dX10_count_0 : decode cX10_count 0 = .ok (.iload_n 1, 1) := by decide +kernel
theorem dX10_count_1 : decode cX10_count 1 = .ok (.tableswitch 45 0 2 #[27, 32, 40], 27) := by decide +kernel
theorem dX10_count_28 : decode cX10_count 28 = .ok (.aload_n 0, 1) := by decide +kernel
theorem dX10_count_29 : decode cX10_count 29 = .ok (.getfield 68, 3) := by decide +kernel
theorem dX10_count_32 : decode cX10_count 32 = .ok (.ireturn, 1) := by decide +kernel
theorem dX10_count_33 : decode cX10_count 33 = .ok (.aload_n 0, 1) := by decide +kernel
theorem dX10_count_34 : decode cX10_count 34 = .ok (.getfield 39, 3) := by decide +kernel
theorem dX10_count_37 : decode cX10_count 37 = .ok (.getfield 211, 3) := by decide +kernel
theorem dX10_count_40 : decode cX10_count 40 = .ok (.ireturn, 1) := by decide +kernel
theorem dX10_count_41 : decode cX10_count 41 = .ok (.aload_n 0, 1) := by decide +kernel
theorem dX10_count_42 : decode cX10_count 42 = .ok (.getfield 193, 3) := by decide +kernel
theorem dX10_count_45 : decode cX10_count 45 = .ok (.ireturn, 1) := by decide +kernel
theorem dX10_count_46 : decode cX10_count 46 = .ok (.iconst (-1), 1) := by decide +kernel
theorem dX10_count_47 : decode cX10_count 47 = .ok (.ireturn, 1) := by decide +kernel
theorem dX10_undo_0 : decode cX10_undo 0 = .ok (.aload_n 0, 1) := by decide +kernel
theorem dX10_undo_1 : decode cX10_undo 1 = .ok (.getfield 39, 3) := by decide +kernel
theorem dX10_undo_4 : decode cX10_undo 4 = .ok (.invokevirtual 214, 3) := by decide +kernel
theorem dX10_undo_7 : decode cX10_undo 7 = .ok (.astore_n 1, 1) := by decide +kernel
theorem dX10_undo_8 : decode cX10_undo 8 = .ok (.aload_n 1, 1) := by decide +kernel
theorem dX10_undo_9 : decode cX10_undo 9 = .ok (.ifnonnull 5, 3) := by decide +kernel
theorem dX10_undo_12 : decode cX10_undo 12 = .ok (.iconst (-1), 1) := by decide +kernel
theorem dX10_undo_13 : decode cX10_undo 13 = .ok (.ireturn, 1) := by decide +kernel
theorem dX10_undo_14 : decode cX10_undo 14 = .ok (.aload_n 0, 1) := by decide +kernel
theorem dX10_undo_15 : decode cX10_undo 15 = .ok (.aload_n 1, 1) := by decide +kernel
theorem dX10_undo_16 : decode cX10_undo 16 = .ok (.invokevirtual 218, 3) := by decide +kernel
theorem dX10_undo_19 : decode cX10_undo 19 = .ok (.aload_n 0, 1) := by decide +kernel
theorem dX10_undo_20 : decode cX10_undo 20 = .ok (.getfield 39, 3) := by decide +kernel
theorem dX10_undo_23 : decode cX10_undo 23 = .ok (.getfield 211, 3) := by decide +kernel
theorem dX10_undo_26 : decode cX10_undo 26 = .ok (.ireturn, 1) := by decide +kernel
theorem dX10_hook_0 : decode cX10_hook 0 = .ok (.iload_n 1, 1) := by decide +kernel
theorem dX10_hook_1 : decode cX10_hook 1 = .ok (.ifCond .lt 18, 3) := by decide +kernel
theorem dX10_hook_4 : decode cX10_hook 4 = .ok (.iload_n 1, 1) := by decide +kernel
theorem dX10_hook_5 : decode cX10_hook 5 = .ok (.bipush 8, 2) := by decide +kernel
theorem dX10_hook_7 : decode cX10_hook 7 = .ok (.if_icmp .ge 12, 3) := by decide +kernel
theorem dX10_hook_10 : decode cX10_hook 10 = .ok (.iload_n 2, 1) := by decide +kernel
theorem dX10_hook_11 : decode cX10_hook 11 = .ok (.ifCond .lt 8, 3) := by decide +kernel
theorem dX10_hook_14 : decode cX10_hook 14 = .ok (.iload_n 2, 1) := by decide +kernel
theorem dX10_hook_15 : decode cX10_hook 15 = .ok (.iconst 5, 1) := by decide +kernel
theorem dX10_hook_16 : decode cX10_hook 16 = .ok (.if_icmp .le 5, 3) := by decide +kernel
theorem dX10_hook_19 : decode cX10_hook 19 = .ok (.iconst (-1), 1) := by decide +kernel
theorem dX10_hook_20 : decode cX10_hook 20 = .ok (.ireturn, 1) := by decide +kernel
theorem dX10_hook_21 : decode cX10_hook 21 = .ok (.aload_n 0, 1) := by decide +kernel
theorem dX10_hook_22 : decode cX10_hook 22 = .ok (.getfield 32, 3) := by decide +kernel
theorem dX10_hook_25 : decode cX10_hook 25 = .ok (.astore 5, 2) := by decide +kernel
theorem dX10_hook_27 : decode cX10_hook 27 = .ok (.iload_n 2, 1) := by decide +kernel
theorem dX10_hook_28 : decode cX10_hook 28 = .ok (.ifCond .eq 92, 3) := by decide +kernel
theorem dX10_hook_31 : decode cX10_hook 31 = .ok (.aload_n 0, 1) := by decide +kernel
theorem dX10_hook_32 : decode cX10_hook 32 = .ok (.iload_n 3, 1) := by decide +kernel
theorem dX10_hook_33 : decode cX10_hook 33 = .ok (.invokevirtual 76, 3) := by decide +kernel
theorem dX10_hook_36 : decode cX10_hook 36 = .ok (.astore 6, 2) := by decide +kernel
theorem dX10_hook_38 : decode cX10_hook 38 = .ok (.aload 6, 2) := by decide +kernel
theorem dX10_hook_40 : decode cX10_hook 40 = .ok (.ifnull 33, 3) := by decide +kernel
theorem dX10_hook_43 : decode cX10_hook 43 = .ok (.iload 4, 2) := by decide +kernel
theorem dX10_hook_45 : decode cX10_hook 45 = .ok (.ifCond .lt 28, 3) := by decide +kernel
theorem dX10_hook_48 : decode cX10_hook 48 = .ok (.iload 4, 2) := by decide +kernel
theorem dX10_hook_50 : decode cX10_hook 50 = .ok (.aload 6, 2) := by decide +kernel
theorem dX10_hook_52 : decode cX10_hook 52 = .ok (.getfield 82, 3) := by decide +kernel
theorem dX10_hook_55 : decode cX10_hook 55 = .ok (.if_icmp .gt 18, 3) := by decide +kernel
theorem dX10_hook_58 : decode cX10_hook 58 = .ok (.iload_n 2, 1) := by decide +kernel
theorem dX10_hook_59 : decode cX10_hook 59 = .ok (.iconst 1, 1) := by decide +kernel
theorem dX10_hook_60 : decode cX10_hook 60 = .ok (.if_icmp .ne 15, 3) := by decide +kernel
theorem dX10_hook_63 : decode cX10_hook 63 = .ok (.iload 4, 2) := by decide +kernel
theorem dX10_hook_65 : decode cX10_hook 65 = .ok (.aload 6, 2) := by decide +kernel
theorem dX10_hook_67 : decode cX10_hook 67 = .ok (.getfield 82, 3) := by decide +kernel
theorem dX10_hook_70 : decode cX10_hook 70 = .ok (.if_icmp .ne 5, 3) := by decide +kernel
theorem dX10_hook_73 : decode cX10_hook 73 = .ok (.iconst (-1), 1) := by decide +kernel
theorem dX10_hook_74 : decode cX10_hook 74 = .ok (.ireturn, 1) := by decide +kernel
theorem dX10_hook_75 : decode cX10_hook 75 = .ok (.iload_n 2, 1) := by decide +kernel
theorem dX10_hook_76 : decode cX10_hook 76 = .ok (.iconst 1, 1) := by decide +kernel
theorem dX10_hook_77 : decode cX10_hook 77 = .ok (.if_icmp .ne 31, 3) := by decide +kernel
theorem dX10_hook_80 : decode cX10_hook 80 = .ok (.new 23, 3) := by decide +kernel
theorem dX10_hook_83 : decode cX10_hook 83 = .ok (.dup, 1) := by decide +kernel
theorem dX10_hook_84 : decode cX10_hook 84 = .ok (.iconst 1, 1) := by decide +kernel
theorem dX10_hook_85 : decode cX10_hook 85 = .ok (.aload 6, 2) := by decide +kernel
theorem dX10_hook_87 : decode cX10_hook 87 = .ok (.getfield 137, 3) := by decide +kernel
theorem dX10_hook_90 : decode cX10_hook 90 = .ok (.iload 4, 2) := by decide +kernel
theorem dX10_hook_92 : decode cX10_hook 92 = .ok (.iaload, 1) := by decide +kernel
theorem dX10_hook_93 : decode cX10_hook 93 = .ok (.aload 6, 2) := by decide +kernel
theorem dX10_hook_95 : decode cX10_hook 95 = .ok (.getfield 143, 3) := by decide +kernel
theorem dX10_hook_98 : decode cX10_hook 98 = .ok (.iload 4, 2) := by decide +kernel
theorem dX10_hook_100 : decode cX10_hook 100 = .ok (.laload, 1) := by decide +kernel
theorem dX10_hook_101 : decode cX10_hook 101 = .ok (.iconst 0, 1) := by decide +kernel
theorem dX10_hook_102 : decode cX10_hook 102 = .ok (.invokespecial 29, 3) := by decide +kernel
theorem dX10_hook_105 : decode cX10_hook 105 = .ok (.goto 13, 3) := by decide +kernel
theorem dX10_hook_108 : decode cX10_hook 108 = .ok (.aload_n 0, 1) := by decide +kernel
theorem dX10_hook_109 : decode cX10_hook 109 = .ok (.iload_n 2, 1) := by decide +kernel
theorem dX10_hook_110 : decode cX10_hook 110 = .ok (.aload 6, 2) := by decide +kernel
theorem dX10_hook_112 : decode cX10_hook 112 = .ok (.iload_n 3, 1) := by decide +kernel
theorem dX10_hook_113 : decode cX10_hook 113 = .ok (.iload 4, 2) := by decide +kernel
theorem dX10_hook_115 : decode cX10_hook 115 = .ok (.invokevirtual 221, 3) := by decide +kernel
theorem dX10_hook_118 : decode cX10_hook 118 = .ok (.astore 5, 2) := by decide +kernel
theorem dX10_hook_120 : decode cX10_hook 120 = .ok (.aload_n 0, 1) := by decide +kernel
theorem dX10_hook_121 : decode cX10_hook 121 = .ok (.getfield 25, 3) := by decide +kernel
theorem dX10_hook_124 : decode cX10_hook 124 = .ok (.iload_n 1, 1) := by decide +kernel
theorem dX10_hook_125 : decode cX10_hook 125 = .ok (.aaload, 1) := by decide +kernel
theorem dX10_hook_126 : decode cX10_hook 126 = .ok (.astore 6, 2) := by decide +kernel
theorem dX10_hook_128 : decode cX10_hook 128 = .ok (.aload_n 0, 1) := by decide +kernel
theorem dX10_hook_129 : decode cX10_hook 129 = .ok (.getfield 25, 3) := by decide +kernel
theorem dX10_hook_132 : decode cX10_hook 132 = .ok (.iload_n 1, 1) := by decide +kernel
theorem dX10_hook_133 : decode cX10_hook 133 = .ok (.aload 5, 2) := by decide +kernel
theorem dX10_hook_135 : decode cX10_hook 135 = .ok (.aastore, 1) := by decide +kernel
theorem dX10_hook_136 : decode cX10_hook 136 = .ok (.aload_n 0, 1) := by decide +kernel
theorem dX10_hook_137 : decode cX10_hook 137 = .ok (.getfield 39, 3) := by decide +kernel
theorem dX10_hook_140 : decode cX10_hook 140 = .ok (.new 100, 3) := by decide +kernel
theorem dX10_hook_143 : decode cX10_hook 143 = .ok (.dup, 1) := by decide +kernel
theorem dX10_hook_144 : decode cX10_hook 144 = .ok (.iconst 4, 1) := by decide +kernel
theorem dX10_hook_145 : decode cX10_hook 145 = .ok (.iload_n 1, 1) := by decide +kernel
theorem dX10_hook_146 : decode cX10_hook 146 = .ok (.iconst 0, 1) := by decide +kernel
theorem dX10_hook_147 : decode cX10_hook 147 = .ok (.lconst 0, 1) := by decide +kernel
theorem dX10_hook_148 : decode cX10_hook 148 = .ok (.aload 6, 2) := by decide +kernel
theorem dX10_hook_150 : decode cX10_hook 150 = .ok (.invokespecial 102, 3) := by decide +kernel
theorem dX10_hook_153 : decode cX10_hook 153 = .ok (.invokevirtual 105, 3) := by decide +kernel
theorem dX10_hook_156 : decode cX10_hook 156 = .ok (.aload 6, 2) := by decide +kernel
theorem dX10_hook_158 : decode cX10_hook 158 = .ok (.getfield 225, 3) := by decide +kernel
theorem dX10_hook_161 : decode cX10_hook 161 = .ok (.ireturn, 1) := by decide +kernel
theorem dX10_held_0 : decode cX10_held 0 = .ok (.iload_n 1, 1) := by decide +kernel
theorem dX10_held_1 : decode cX10_held 1 = .ok (.ifCond .lt 9, 3) := by decide +kernel
theorem dX10_held_4 : decode cX10_held 4 = .ok (.iload_n 1, 1) := by decide +kernel
theorem dX10_held_5 : decode cX10_held 5 = .ok (.bipush 8, 2) := by decide +kernel
theorem dX10_held_7 : decode cX10_held 7 = .ok (.if_icmp .lt 7, 3) := by decide +kernel
theorem dX10_held_10 : decode cX10_held 10 = .ok (.iconst (-1), 1) := by decide +kernel
theorem dX10_held_11 : decode cX10_held 11 = .ok (.goto 12, 3) := by decide +kernel
theorem dX10_held_14 : decode cX10_held 14 = .ok (.aload_n 0, 1) := by decide +kernel
theorem dX10_held_15 : decode cX10_held 15 = .ok (.getfield 25, 3) := by decide +kernel
theorem dX10_held_18 : decode cX10_held 18 = .ok (.iload_n 1, 1) := by decide +kernel
theorem dX10_held_19 : decode cX10_held 19 = .ok (.aaload, 1) := by decide +kernel
theorem dX10_held_20 : decode cX10_held 20 = .ok (.getfield 225, 3) := by decide +kernel
theorem dX10_held_23 : decode cX10_held 23 = .ok (.ireturn, 1) := by decide +kernel
theorem dX10_use_0 : decode cX10_use 0 = .ok (.iload_n 1, 1) := by decide +kernel
theorem dX10_use_1 : decode cX10_use 1 = .ok (.ifCond .lt 31, 3) := by decide +kernel
theorem dX10_use_4 : decode cX10_use 4 = .ok (.iload_n 1, 1) := by decide +kernel
theorem dX10_use_5 : decode cX10_use 5 = .ok (.bipush 8, 2) := by decide +kernel
theorem dX10_use_7 : decode cX10_use 7 = .ok (.if_icmp .ge 25, 3) := by decide +kernel
theorem dX10_use_10 : decode cX10_use 10 = .ok (.iload_n 2, 1) := by decide +kernel
theorem dX10_use_11 : decode cX10_use 11 = .ok (.ifCond .lt 21, 3) := by decide +kernel
theorem dX10_use_14 : decode cX10_use 14 = .ok (.iload_n 2, 1) := by decide +kernel
theorem dX10_use_15 : decode cX10_use 15 = .ok (.bipush 11, 2) := by decide +kernel
theorem dX10_use_17 : decode cX10_use 17 = .ok (.if_icmp .ge 15, 3) := by decide +kernel
theorem dX10_use_20 : decode cX10_use 20 = .ok (.iload_n 2, 1) := by decide +kernel
theorem dX10_use_21 : decode cX10_use 21 = .ok (.bipush 9, 2) := by decide +kernel
theorem dX10_use_23 : decode cX10_use 23 = .ok (.if_icmp .ne 11, 3) := by decide +kernel
theorem dX10_use_26 : decode cX10_use 26 = .ok (.iload_n 3, 1) := by decide +kernel
theorem dX10_use_27 : decode cX10_use 27 = .ok (.bipush 100, 2) := by decide +kernel
theorem dX10_use_29 : decode cX10_use 29 = .ok (.if_icmp .le 5, 3) := by decide +kernel
theorem dX10_use_32 : decode cX10_use 32 = .ok (.iconst (-1), 1) := by decide +kernel
theorem dX10_use_33 : decode cX10_use 33 = .ok (.ireturn, 1) := by decide +kernel
theorem dX10_use_34 : decode cX10_use 34 = .ok (.aload_n 0, 1) := by decide +kernel
theorem dX10_use_35 : decode cX10_use 35 = .ok (.getfield 25, 3) := by decide +kernel
theorem dX10_use_38 : decode cX10_use 38 = .ok (.iload_n 1, 1) := by decide +kernel
theorem dX10_use_39 : decode cX10_use 39 = .ok (.aaload, 1) := by decide +kernel
theorem dX10_use_40 : decode cX10_use 40 = .ok (.astore 5, 2) := by decide +kernel
theorem dX10_use_42 : decode cX10_use 42 = .ok (.iload_n 2, 1) := by decide +kernel
theorem dX10_use_43 : decode cX10_use 43 = .ok (.bipush 10, 2) := by decide +kernel
theorem dX10_use_45 : decode cX10_use 45 = .ok (.if_icmp .ne 19, 3) := by decide +kernel
theorem dX10_use_48 : decode cX10_use 48 = .ok (.aload 5, 2) := by decide +kernel
theorem dX10_use_50 : decode cX10_use 50 = .ok (.getfield 225, 3) := by decide +kernel
theorem dX10_use_53 : decode cX10_use 53 = .ok (.ifCond .ne 8, 3) := by decide +kernel
theorem dX10_use_56 : decode cX10_use 56 = .ok (.bipush (-15), 2) := by decide +kernel
theorem dX10_use_58 : decode cX10_use 58 = .ok (.goto 5, 3) := by decide +kernel
theorem dX10_use_61 : decode cX10_use 61 = .ok (.bipush (-11), 2) := by decide +kernel
theorem dX10_use_63 : decode cX10_use 63 = .ok (.ireturn, 1) := by decide +kernel
theorem dX10_use_64 : decode cX10_use 64 = .ok (.aload 5, 2) := by decide +kernel
theorem dX10_use_66 : decode cX10_use 66 = .ok (.getfield 225, 3) := by decide +kernel
theorem dX10_use_69 : decode cX10_use 69 = .ok (.ifCond .ne 6, 3) := by decide +kernel
theorem dX10_use_72 : decode cX10_use 72 = .ok (.bipush (-12), 2) := by decide +kernel
theorem dX10_use_74 : decode cX10_use 74 = .ok (.ireturn, 1) := by decide +kernel
theorem dX10_use_75 : decode cX10_use 75 = .ok (.aload 5, 2) := by decide +kernel
theorem dX10_use_77 : decode cX10_use 77 = .ok (.getfield 225, 3) := by decide +kernel
theorem dX10_use_80 : decode cX10_use 80 = .ok (.getstatic 228, 3) := by decide +kernel
theorem dX10_use_83 : decode cX10_use 83 = .ok (.iload_n 2, 1) := by decide +kernel
theorem dX10_use_84 : decode cX10_use 84 = .ok (.iaload, 1) := by decide +kernel
theorem dX10_use_85 : decode cX10_use 85 = .ok (.if_icmp .ne 16, 3) := by decide +kernel
theorem dX10_use_88 : decode cX10_use 88 = .ok (.iload_n 2, 1) := by decide +kernel
theorem dX10_use_89 : decode cX10_use 89 = .ok (.iconst 1, 1) := by decide +kernel
theorem dX10_use_90 : decode cX10_use 90 = .ok (.if_icmp .ne 14, 3) := by decide +kernel
theorem dX10_use_93 : decode cX10_use 93 = .ok (.aload 5, 2) := by decide +kernel
theorem dX10_use_95 : decode cX10_use 95 = .ok (.invokevirtual 231, 3) := by decide +kernel
theorem dX10_use_98 : decode cX10_use 98 = .ok (.ifCond .ne 6, 3) := by decide +kernel
theorem dX10_use_101 : decode cX10_use 101 = .ok (.bipush (-11), 2) := by decide +kernel
theorem dX10_use_103 : decode cX10_use 103 = .ok (.ireturn, 1) := by decide +kernel
theorem dX10_use_104 : decode cX10_use 104 = .ok (.aload 5, 2) := by decide +kernel
theorem dX10_use_106 : decode cX10_use 106 = .ok (.getfield 225, 3) := by decide +kernel
theorem dX10_use_109 : decode cX10_use 109 = .ok (.iconst 1, 1) := by decide +kernel
theorem dX10_use_110 : decode cX10_use 110 = .ok (.if_icmp .ne 23, 3) := by decide +kernel
theorem dX10_use_113 : decode cX10_use 113 = .ok (.iload_n 2, 1) := by decide +kernel
theorem dX10_use_114 : decode cX10_use 114 = .ok (.iconst 1, 1) := by decide +kernel
theorem dX10_use_115 : decode cX10_use 115 = .ok (.if_icmp .ne 12, 3) := by decide +kernel
theorem dX10_use_118 : decode cX10_use 118 = .ok (.aload 5, 2) := by decide +kernel
theorem dX10_use_120 : decode cX10_use 120 = .ok (.getfield 235, 3) := by decide +kernel
theorem dX10_use_123 : decode cX10_use 123 = .ok (.l2i, 1) := by decide +kernel
theorem dX10_use_124 : decode cX10_use 124 = .ok (.goto 8, 3) := by decide +kernel
theorem dX10_use_127 : decode cX10_use 127 = .ok (.aload 5, 2) := by decide +kernel
theorem dX10_use_129 : decode cX10_use 129 = .ok (.getfield 238, 3) := by decide +kernel
theorem dX10_use_132 : decode cX10_use 132 = .ok (.ireturn, 1) := by decide +kernel
theorem dX10_use_133 : decode cX10_use 133 = .ok (.iload_n 2, 1) := by decide +kernel
theorem dX10_use_134 : decode cX10_use 134 = .ok (.bipush 9, 2) := by decide +kernel
theorem dX10_use_136 : decode cX10_use 136 = .ok (.if_icmp .ne 12, 3) := by decide +kernel
theorem dX10_use_139 : decode cX10_use 139 = .ok (.aload 5, 2) := by decide +kernel
theorem dX10_use_141 : decode cX10_use 141 = .ok (.iload_n 3, 1) := by decide +kernel
theorem dX10_use_142 : decode cX10_use 142 = .ok (.iload 4, 2) := by decide +kernel
theorem dX10_use_144 : decode cX10_use 144 = .ok (.invokestatic 241, 3) := by decide +kernel
theorem dX10_use_147 : decode cX10_use 147 = .ok (.ireturn, 1) := by decide +kernel
theorem dX10_use_148 : decode cX10_use 148 = .ok (.aload 5, 2) := by decide +kernel
theorem dX10_use_150 : decode cX10_use 150 = .ok (.iload_n 3, 1) := by decide +kernel
theorem dX10_use_151 : decode cX10_use 151 = .ok (.invokevirtual 245, 3) := by decide +kernel
theorem dX10_use_154 : decode cX10_use 154 = .ok (.ifCond .eq 15, 3) := by decide +kernel
theorem dX10_use_157 : decode cX10_use 157 = .ok (.aload_n 0, 1) := by decide +kernel
theorem dX10_use_158 : decode cX10_use 158 = .ok (.iload_n 1, 1) := by decide +kernel
theorem dX10_use_159 : decode cX10_use 159 = .ok (.iload_n 2, 1) := by decide +kernel
theorem dX10_use_160 : decode cX10_use 160 = .ok (.iload_n 3, 1) := by decide +kernel
theorem dX10_use_161 : decode cX10_use 161 = .ok (.iload 4, 2) := by decide +kernel
theorem dX10_use_163 : decode cX10_use 163 = .ok (.invokevirtual 248, 3) := by decide +kernel
theorem dX10_use_166 : decode cX10_use 166 = .ok (.goto 5, 3) := by decide +kernel
theorem dX10_use_169 : decode cX10_use 169 = .ok (.bipush (-13), 2) := by decide +kernel
theorem dX10_use_171 : decode cX10_use 171 = .ok (.ireturn, 1) := by decide +kernel
theorem dX10_isKind_0 : decode cX10_isKind 0 = .ok (.iload_n 0, 1) := by decide +kernel
theorem dX10_isKind_1 : decode cX10_isKind 1 = .ok (.ifCond .lt 13, 3) := by decide +kernel
theorem dX10_isKind_4 : decode cX10_isKind 4 = .ok (.iload_n 0, 1) := by decide +kernel
theorem dX10_isKind_5 : decode cX10_isKind 5 = .ok (.bipush 13, 2) := by decide +kernel
theorem dX10_isKind_7 : decode cX10_isKind 7 = .ok (.if_icmp .ge 7, 3) := by decide +kernel
theorem dX10_isKind_10 : decode cX10_isKind 10 = .ok (.iconst 1, 1) := by decide +kernel
theorem dX10_isKind_11 : decode cX10_isKind 11 = .ok (.goto 4, 3) := by decide +kernel
theorem dX10_isKind_14 : decode cX10_isKind 14 = .ok (.iconst 0, 1) := by decide +kernel
theorem dX10_isKind_15 : decode cX10_isKind 15 = .ok (.ireturn, 1) := by decide +kernel
theorem dX10_fitsAsY_0 : decode cX10_fitsAsY 0 = .ok (.iload_n 1, 1) := by decide +kernel
theorem dX10_fitsAsY_1 : decode cX10_fitsAsY 1 = .ok (.invokestatic 252, 3) := by decide +kernel
theorem dX10_fitsAsY_4 : decode cX10_fitsAsY 4 = .ok (.ifCond .eq 25, 3) := by decide +kernel
theorem dX10_fitsAsY_7 : decode cX10_fitsAsY 7 = .ok (.lload_n 2, 1) := by decide +kernel
theorem dX10_fitsAsY_8 : decode cX10_fitsAsY 8 = .ok (.lconst 0, 1) := by decide +kernel
theorem dX10_fitsAsY_9 : decode cX10_fitsAsY 9 = .ok (.lcmp, 1) := by decide +kernel
theorem dX10_fitsAsY_10 : decode cX10_fitsAsY 10 = .ok (.ifCond .lt 17, 3) := by decide +kernel
theorem dX10_fitsAsY_13 : decode cX10_fitsAsY 13 = .ok (.lload_n 2, 1) := by decide +kernel
theorem dX10_fitsAsY_14 : decode cX10_fitsAsY 14 = .ok (.aload_n 0, 1) := by decide +kernel
theorem dX10_fitsAsY_15 : decode cX10_fitsAsY 15 = .ok (.getfield 82, 3) := by decide +kernel
theorem dX10_fitsAsY_18 : decode cX10_fitsAsY 18 = .ok (.i2l, 1) := by decide +kernel
theorem dX10_fitsAsY_19 : decode cX10_fitsAsY 19 = .ok (.lcmp, 1) := by decide +kernel
theorem dX10_fitsAsY_20 : decode cX10_fitsAsY 20 = .ok (.ifCond .gt 7, 3) := by decide +kernel
theorem dX10_fitsAsY_23 : decode cX10_fitsAsY 23 = .ok (.iconst 1, 1) := by decide +kernel
theorem dX10_fitsAsY_24 : decode cX10_fitsAsY 24 = .ok (.goto 4, 3) := by decide +kernel
theorem dX10_fitsAsY_27 : decode cX10_fitsAsY 27 = .ok (.iconst 0, 1) := by decide +kernel
theorem dX10_fitsAsY_28 : decode cX10_fitsAsY 28 = .ok (.ireturn, 1) := by decide +kernel
theorem dX10_fitsAsY_29 : decode cX10_fitsAsY 29 = .ok (.iload_n 1, 1) := by decide +kernel
theorem dX10_fitsAsY_30 : decode cX10_fitsAsY 30 = .ok (.invokestatic 257, 3) := by decide +kernel
theorem dX10_fitsAsY_33 : decode cX10_fitsAsY 33 = .ok (.ifCond .eq 19, 3) := by decide +kernel
theorem dX10_fitsAsY_36 : decode cX10_fitsAsY 36 = .ok (.lload_n 2, 1) := by decide +kernel
theorem dX10_fitsAsY_37 : decode cX10_fitsAsY 37 = .ok (.lconst 0, 1) := by decide +kernel
theorem dX10_fitsAsY_38 : decode cX10_fitsAsY 38 = .ok (.lcmp, 1) := by decide +kernel
theorem dX10_fitsAsY_39 : decode cX10_fitsAsY 39 = .ok (.ifCond .lt 17, 3) := by decide +kernel
theorem dX10_fitsAsY_42 : decode cX10_fitsAsY 42 = .ok (.lload_n 2, 1) := by decide +kernel
theorem dX10_fitsAsY_43 : decode cX10_fitsAsY 43 = .ok (.aload_n 0, 1) := by decide +kernel
theorem dX10_fitsAsY_44 : decode cX10_fitsAsY 44 = .ok (.getfield 89, 3) := by decide +kernel
theorem dX10_fitsAsY_47 : decode cX10_fitsAsY 47 = .ok (.i2l, 1) := by decide +kernel
theorem dX10_fitsAsY_48 : decode cX10_fitsAsY 48 = .ok (.lcmp, 1) := by decide +kernel
theorem dX10_fitsAsY_49 : decode cX10_fitsAsY 49 = .ok (.ifCond .ge 7, 3) := by decide +kernel
theorem dX10_fitsAsY_52 : decode cX10_fitsAsY 52 = .ok (.iconst 1, 1) := by decide +kernel
theorem dX10_fitsAsY_53 : decode cX10_fitsAsY 53 = .ok (.goto 4, 3) := by decide +kernel
theorem dX10_fitsAsY_56 : decode cX10_fitsAsY 56 = .ok (.iconst 0, 1) := by decide +kernel
theorem dX10_fitsAsY_57 : decode cX10_fitsAsY 57 = .ok (.ireturn, 1) := by decide +kernel
theorem dX10_formAt_0 : decode cX10_formAt 0 = .ok (.iload_n 1, 1) := by decide +kernel
theorem dX10_formAt_1 : decode cX10_formAt 1 = .ok (.ifCond .lt 11, 3) := by decide +kernel
theorem dX10_formAt_4 : decode cX10_formAt 4 = .ok (.iload_n 1, 1) := by decide +kernel
theorem dX10_formAt_5 : decode cX10_formAt 5 = .ok (.aload_n 0, 1) := by decide +kernel
theorem dX10_formAt_6 : decode cX10_formAt 6 = .ok (.getfield 68, 3) := by decide +kernel
theorem dX10_formAt_9 : decode cX10_formAt 9 = .ok (.if_icmp .lt 7, 3) := by decide +kernel
theorem dX10_formAt_12 : decode cX10_formAt 12 = .ok (.aconst_null, 1) := by decide +kernel
theorem dX10_formAt_13 : decode cX10_formAt 13 = .ok (.goto 9, 3) := by decide +kernel
theorem dX10_formAt_16 : decode cX10_formAt 16 = .ok (.aload_n 0, 1) := by decide +kernel
theorem dX10_formAt_17 : decode cX10_formAt 17 = .ok (.getfield 11, 3) := by decide +kernel
theorem dX10_formAt_20 : decode cX10_formAt 20 = .ok (.iload_n 1, 1) := by decide +kernel
theorem dX10_formAt_21 : decode cX10_formAt 21 = .ok (.aaload, 1) := by decide +kernel
theorem dX10_formAt_22 : decode cX10_formAt 22 = .ok (.areturn, 1) := by decide +kernel
theorem dX10_openForm_0 : decode cX10_openForm 0 = .ok (.aload_n 0, 1) := by decide +kernel
theorem dX10_openForm_1 : decode cX10_openForm 1 = .ok (.getfield 11, 3) := by decide +kernel
theorem dX10_openForm_4 : decode cX10_openForm 4 = .ok (.aload_n 0, 1) := by decide +kernel
theorem dX10_openForm_5 : decode cX10_openForm 5 = .ok (.getfield 68, 3) := by decide +kernel
theorem dX10_openForm_8 : decode cX10_openForm 8 = .ok (.aaload, 1) := by decide +kernel
theorem dX10_openForm_9 : decode cX10_openForm 9 = .ok (.astore_n 2, 1) := by decide +kernel
theorem dX10_openForm_10 : decode cX10_openForm 10 = .ok (.aload_n 2, 1) := by decide +kernel
theorem dX10_openForm_11 : decode cX10_openForm 11 = .ok (.ifnonnull 21, 3) := by decide +kernel
theorem dX10_openForm_14 : decode cX10_openForm 14 = .ok (.new 9, 3) := by decide +kernel
theorem dX10_openForm_17 : decode cX10_openForm 17 = .ok (.dup, 1) := by decide +kernel
theorem dX10_openForm_18 : decode cX10_openForm 18 = .ok (.invokespecial 260, 3) := by decide +kernel
theorem dX10_openForm_21 : decode cX10_openForm 21 = .ok (.astore_n 2, 1) := by decide +kernel
theorem dX10_openForm_22 : decode cX10_openForm 22 = .ok (.aload_n 0, 1) := by decide +kernel
theorem dX10_openForm_23 : decode cX10_openForm 23 = .ok (.getfield 11, 3) := by decide +kernel
theorem dX10_openForm_26 : decode cX10_openForm 26 = .ok (.aload_n 0, 1) := by decide +kernel
theorem dX10_openForm_27 : decode cX10_openForm 27 = .ok (.getfield 68, 3) := by decide +kernel
theorem dX10_openForm_30 : decode cX10_openForm 30 = .ok (.aload_n 2, 1) := by decide +kernel
theorem dX10_openForm_31 : decode cX10_openForm 31 = .ok (.aastore, 1) := by decide +kernel
theorem dX10_openForm_32 : decode cX10_openForm 32 = .ok (.aload_n 2, 1) := by decide +kernel
theorem dX10_openForm_33 : decode cX10_openForm 33 = .ok (.iload_n 1, 1) := by decide +kernel
theorem dX10_openForm_34 : decode cX10_openForm 34 = .ok (.invokevirtual 261, 3) := by decide +kernel
theorem dX10_openForm_37 : decode cX10_openForm 37 = .ok (.aload_n 0, 1) := by decide +kernel
theorem dX10_openForm_38 : decode cX10_openForm 38 = .ok (.getfield 39, 3) := by decide +kernel
theorem dX10_openForm_41 : decode cX10_openForm 41 = .ok (.new 100, 3) := by decide +kernel
theorem dX10_openForm_44 : decode cX10_openForm 44 = .ok (.dup, 1) := by decide +kernel
theorem dX10_openForm_45 : decode cX10_openForm 45 = .ok (.iconst 0, 1) := by decide +kernel
theorem dX10_openForm_46 : decode cX10_openForm 46 = .ok (.aload_n 0, 1) := by decide +kernel
theorem dX10_openForm_47 : decode cX10_openForm 47 = .ok (.getfield 68, 3) := by decide +kernel
theorem dX10_openForm_50 : decode cX10_openForm 50 = .ok (.iconst 0, 1) := by decide +kernel
theorem dX10_openForm_51 : decode cX10_openForm 51 = .ok (.lconst 0, 1) := by decide +kernel
theorem dX10_openForm_52 : decode cX10_openForm 52 = .ok (.aconst_null, 1) := by decide +kernel
theorem dX10_openForm_53 : decode cX10_openForm 53 = .ok (.invokespecial 102, 3) := by decide +kernel
theorem dX10_openForm_56 : decode cX10_openForm 56 = .ok (.invokevirtual 105, 3) := by decide +kernel
theorem dX10_openForm_59 : decode cX10_openForm 59 = .ok (.aload_n 0, 1) := by decide +kernel
theorem dX10_openForm_60 : decode cX10_openForm 60 = .ok (.dup, 1) := by decide +kernel
theorem dX10_openForm_61 : decode cX10_openForm 61 = .ok (.getfield 68, 3) := by decide +kernel
theorem dX10_openForm_64 : decode cX10_openForm 64 = .ok (.iconst 1, 1) := by decide +kernel
theorem dX10_openForm_65 : decode cX10_openForm 65 = .ok (.iadd, 1) := by decide +kernel
theorem dX10_openForm_66 : decode cX10_openForm 66 = .ok (.putfield 68, 3) := by decide +kernel
theorem dX10_openForm_69 : decode cX10_openForm 69 = .ok (.aload_n 2, 1) := by decide +kernel
theorem dX10_openForm_70 : decode cX10_openForm 70 = .ok (.areturn, 1) := by decide +kernel
theorem dX10_proofHolds_0 : decode cX10_proofHolds 0 = .ok (.iload_n 1, 1) := by decide +kernel
theorem dX10_proofHolds_1 : decode cX10_proofHolds 1 = .ok (.iload_n 0, 1) := by decide +kernel
theorem dX10_proofHolds_2 : decode cX10_proofHolds 2 = .ok (.if_icmp .ge 32, 3) := by decide +kernel
theorem dX10_proofHolds_5 : decode cX10_proofHolds 5 = .ok (.iload_n 2, 1) := by decide +kernel
theorem dX10_proofHolds_6 : decode cX10_proofHolds 6 = .ok (.ifCond .ne 26, 3) := by decide +kernel
theorem dX10_proofHolds_9 : decode cX10_proofHolds 9 = .ok (.lload_n 3, 1) := by decide +kernel
theorem dX10_proofHolds_10 : decode cX10_proofHolds 10 = .ok (.lconst 1, 1) := by decide +kernel
theorem dX10_proofHolds_11 : decode cX10_proofHolds 11 = .ok (.iload_n 1, 1) := by decide +kernel
theorem dX10_proofHolds_12 : decode cX10_proofHolds 12 = .ok (.lshl, 1) := by decide +kernel
theorem dX10_proofHolds_13 : decode cX10_proofHolds 13 = .ok (.lcmp, 1) := by decide +kernel
theorem dX10_proofHolds_14 : decode cX10_proofHolds 14 = .ok (.ifCond .ne 18, 3) := by decide +kernel
theorem dX10_proofHolds_17 : decode cX10_proofHolds 17 = .ok (.lconst 1, 1) := by decide +kernel
theorem dX10_proofHolds_18 : decode cX10_proofHolds 18 = .ok (.iload_n 1, 1) := by decide +kernel
theorem dX10_proofHolds_19 : decode cX10_proofHolds 19 = .ok (.lshl, 1) := by decide +kernel
theorem dX10_proofHolds_20 : decode cX10_proofHolds 20 = .ok (.lload 5, 2) := by decide +kernel
theorem dX10_proofHolds_22 : decode cX10_proofHolds 22 = .ok (.invokestatic 181, 3) := by decide +kernel
theorem dX10_proofHolds_25 : decode cX10_proofHolds 25 = .ok (.ifCond .ne 7, 3) := by decide +kernel
theorem dX10_proofHolds_28 : decode cX10_proofHolds 28 = .ok (.iconst 1, 1) := by decide +kernel
theorem dX10_proofHolds_29 : decode cX10_proofHolds 29 = .ok (.goto 4, 3) := by decide +kernel
theorem dX10_proofHolds_32 : decode cX10_proofHolds 32 = .ok (.iconst 0, 1) := by decide +kernel
theorem dX10_proofHolds_33 : decode cX10_proofHolds 33 = .ok (.ireturn, 1) := by decide +kernel
theorem dX10_proofHolds_34 : decode cX10_proofHolds 34 = .ok (.iload_n 2, 1) := by decide +kernel
theorem dX10_proofHolds_35 : decode cX10_proofHolds 35 = .ok (.ifCond .eq 26, 3) := by decide +kernel
theorem dX10_proofHolds_38 : decode cX10_proofHolds 38 = .ok (.lload_n 3, 1) := by decide +kernel
theorem dX10_proofHolds_39 : decode cX10_proofHolds 39 = .ok (.lconst 0, 1) := by decide +kernel
theorem dX10_proofHolds_40 : decode cX10_proofHolds 40 = .ok (.lcmp, 1) := by decide +kernel
theorem dX10_proofHolds_41 : decode cX10_proofHolds 41 = .ok (.ifCond .eq 16, 3) := by decide +kernel
theorem dX10_proofHolds_44 : decode cX10_proofHolds 44 = .ok (.lload_n 3, 1) := by decide +kernel
theorem dX10_proofHolds_45 : decode cX10_proofHolds 45 = .ok (.lconst 1, 1) := by decide +kernel
theorem dX10_proofHolds_46 : decode cX10_proofHolds 46 = .ok (.lcmp, 1) := by decide +kernel
theorem dX10_proofHolds_47 : decode cX10_proofHolds 47 = .ok (.ifCond .ne 14, 3) := by decide +kernel
theorem dX10_proofHolds_50 : decode cX10_proofHolds 50 = .ok (.lload 5, 2) := by decide +kernel
theorem dX10_proofHolds_52 : decode cX10_proofHolds 52 = .ok (.lconst 0, 1) := by decide +kernel
theorem dX10_proofHolds_53 : decode cX10_proofHolds 53 = .ok (.lcmp, 1) := by decide +kernel
theorem dX10_proofHolds_54 : decode cX10_proofHolds 54 = .ok (.ifCond .ne 7, 3) := by decide +kernel
theorem dX10_proofHolds_57 : decode cX10_proofHolds 57 = .ok (.iconst 1, 1) := by decide +kernel
theorem dX10_proofHolds_58 : decode cX10_proofHolds 58 = .ok (.goto 4, 3) := by decide +kernel
theorem dX10_proofHolds_61 : decode cX10_proofHolds 61 = .ok (.iconst 0, 1) := by decide +kernel
theorem dX10_proofHolds_62 : decode cX10_proofHolds 62 = .ok (.ireturn, 1) := by decide +kernel
theorem dX10_takeBack_0 : decode cX10_takeBack 0 = .ok (.aload_n 1, 1) := by decide +kernel
theorem dX10_takeBack_1 : decode cX10_takeBack 1 = .ok (.getfield 264, 3) := by decide +kernel
theorem dX10_takeBack_4 : decode cX10_takeBack 4 = .ok (.tableswitch 110 0 4 #[36, 47, 61, 78, 94], 36) := by decide +kernel
theorem dX10_takeBack_40 : decode cX10_takeBack 40 = .ok (.aload_n 0, 1) := by decide +kernel
theorem dX10_takeBack_41 : decode cX10_takeBack 41 = .ok (.aload_n 1, 1) := by decide +kernel
theorem dX10_takeBack_42 : decode cX10_takeBack 42 = .ok (.getfield 265, 3) := by decide +kernel
theorem dX10_takeBack_45 : decode cX10_takeBack 45 = .ok (.putfield 68, 3) := by decide +kernel
theorem dX10_takeBack_48 : decode cX10_takeBack 48 = .ok (.goto 81, 3) := by decide +kernel
theorem dX10_takeBack_51 : decode cX10_takeBack 51 = .ok (.aload_n 0, 1) := by decide +kernel
theorem dX10_takeBack_52 : decode cX10_takeBack 52 = .ok (.aload_n 1, 1) := by decide +kernel
theorem dX10_takeBack_53 : decode cX10_takeBack 53 = .ok (.getfield 265, 3) := by decide +kernel
theorem dX10_takeBack_56 : decode cX10_takeBack 56 = .ok (.invokevirtual 76, 3) := by decide +kernel
theorem dX10_takeBack_59 : decode cX10_takeBack 59 = .ok (.invokestatic 268, 3) := by decide +kernel
theorem dX10_takeBack_62 : decode cX10_takeBack 62 = .ok (.goto 67, 3) := by decide +kernel
theorem dX10_takeBack_65 : decode cX10_takeBack 65 = .ok (.aload_n 0, 1) := by decide +kernel
theorem dX10_takeBack_66 : decode cX10_takeBack 66 = .ok (.getfield 15, 3) := by decide +kernel
theorem dX10_takeBack_69 : decode cX10_takeBack 69 = .ok (.aload_n 1, 1) := by decide +kernel
theorem dX10_takeBack_70 : decode cX10_takeBack 70 = .ok (.getfield 265, 3) := by decide +kernel
theorem dX10_takeBack_73 : decode cX10_takeBack 73 = .ok (.aload_n 1, 1) := by decide +kernel
theorem dX10_takeBack_74 : decode cX10_takeBack 74 = .ok (.getfield 271, 3) := by decide +kernel
theorem dX10_takeBack_77 : decode cX10_takeBack 77 = .ok (.l2i, 1) := by decide +kernel
theorem dX10_takeBack_78 : decode cX10_takeBack 78 = .ok (.iastore, 1) := by decide +kernel
theorem dX10_takeBack_79 : decode cX10_takeBack 79 = .ok (.goto 50, 3) := by decide +kernel
theorem dX10_takeBack_82 : decode cX10_takeBack 82 = .ok (.aload_n 0, 1) := by decide +kernel
theorem dX10_takeBack_83 : decode cX10_takeBack 83 = .ok (.getfield 19, 3) := by decide +kernel
theorem dX10_takeBack_86 : decode cX10_takeBack 86 = .ok (.aload_n 1, 1) := by decide +kernel
theorem dX10_takeBack_87 : decode cX10_takeBack 87 = .ok (.getfield 265, 3) := by decide +kernel
theorem dX10_takeBack_90 : decode cX10_takeBack 90 = .ok (.aload_n 1, 1) := by decide +kernel
theorem dX10_takeBack_91 : decode cX10_takeBack 91 = .ok (.getfield 271, 3) := by decide +kernel
theorem dX10_takeBack_94 : decode cX10_takeBack 94 = .ok (.lastore, 1) := by decide +kernel
theorem dX10_takeBack_95 : decode cX10_takeBack 95 = .ok (.goto 34, 3) := by decide +kernel
theorem dX10_takeBack_98 : decode cX10_takeBack 98 = .ok (.aload_n 0, 1) := by decide +kernel
theorem dX10_takeBack_99 : decode cX10_takeBack 99 = .ok (.getfield 25, 3) := by decide +kernel
theorem dX10_takeBack_102 : decode cX10_takeBack 102 = .ok (.aload_n 1, 1) := by decide +kernel
theorem dX10_takeBack_103 : decode cX10_takeBack 103 = .ok (.getfield 265, 3) := by decide +kernel
theorem dX10_takeBack_106 : decode cX10_takeBack 106 = .ok (.aload_n 1, 1) := by decide +kernel
theorem dX10_takeBack_107 : decode cX10_takeBack 107 = .ok (.getfield 274, 3) := by decide +kernel
theorem dX10_takeBack_110 : decode cX10_takeBack 110 = .ok (.aastore, 1) := by decide +kernel
theorem dX10_takeBack_111 : decode cX10_takeBack 111 = .ok (.goto 18, 3) := by decide +kernel
theorem dX10_takeBack_114 : decode cX10_takeBack 114 = .ok (.aload_n 1, 1) := by decide +kernel
theorem dX10_takeBack_115 : decode cX10_takeBack 115 = .ok (.getfield 274, 3) := by decide +kernel
theorem dX10_takeBack_118 : decode cX10_takeBack 118 = .ok (.aload_n 1, 1) := by decide +kernel
theorem dX10_takeBack_119 : decode cX10_takeBack 119 = .ok (.getfield 277, 3) := by decide +kernel
theorem dX10_takeBack_122 : decode cX10_takeBack 122 = .ok (.aload_n 1, 1) := by decide +kernel
theorem dX10_takeBack_123 : decode cX10_takeBack 123 = .ok (.getfield 271, 3) := by decide +kernel
theorem dX10_takeBack_126 : decode cX10_takeBack 126 = .ok (.invokestatic 280, 3) := by decide +kernel
theorem dX10_takeBack_129 : decode cX10_takeBack 129 = .ok (.return_, 1) := by decide +kernel
theorem dX10_removeStep_0 : decode cX10_removeStep 0 = .ok (.aload_n 0, 1) := by decide +kernel
theorem dX10_removeStep_1 : decode cX10_removeStep 1 = .ok (.ifnull 7, 3) := by decide +kernel
theorem dX10_removeStep_4 : decode cX10_removeStep 4 = .ok (.aload_n 0, 1) := by decide +kernel
theorem dX10_removeStep_5 : decode cX10_removeStep 5 = .ok (.invokevirtual 284, 3) := by decide +kernel
theorem dX10_removeStep_8 : decode cX10_removeStep 8 = .ok (.return_, 1) := by decide +kernel
theorem dX10_restoreCell_0 : decode cX10_restoreCell 0 = .ok (.aload_n 0, 1) := by decide +kernel
theorem dX10_restoreCell_1 : decode cX10_restoreCell 1 = .ok (.ifnull 18, 3) := by decide +kernel
theorem dX10_restoreCell_4 : decode cX10_restoreCell 4 = .ok (.aload_n 0, 1) := by decide +kernel
theorem dX10_restoreCell_5 : decode cX10_restoreCell 5 = .ok (.iload_n 1, 1) := by decide +kernel
theorem dX10_restoreCell_6 : decode cX10_restoreCell 6 = .ok (.invokevirtual 245, 3) := by decide +kernel
theorem dX10_restoreCell_9 : decode cX10_restoreCell 9 = .ok (.ifCond .eq 10, 3) := by decide +kernel
theorem dX10_restoreCell_12 : decode cX10_restoreCell 12 = .ok (.aload_n 0, 1) := by decide +kernel
theorem dX10_restoreCell_13 : decode cX10_restoreCell 13 = .ok (.getfield 287, 3) := by decide +kernel
theorem dX10_restoreCell_16 : decode cX10_restoreCell 16 = .ok (.iload_n 1, 1) := by decide +kernel
theorem dX10_restoreCell_17 : decode cX10_restoreCell 17 = .ok (.lload_n 2, 1) := by decide +kernel
theorem dX10_restoreCell_18 : decode cX10_restoreCell 18 = .ok (.lastore, 1) := by decide +kernel
theorem dX10_restoreCell_19 : decode cX10_restoreCell 19 = .ok (.return_, 1) := by decide +kernel
theorem dX10_rowOf_0 : decode cX10_rowOf 0 = .ok (.new 23, 3) := by decide +kernel
theorem dX10_rowOf_3 : decode cX10_rowOf 3 = .ok (.dup, 1) := by decide +kernel
theorem dX10_rowOf_4 : decode cX10_rowOf 4 = .ok (.iload_n 1, 1) := by decide +kernel
theorem dX10_rowOf_5 : decode cX10_rowOf 5 = .ok (.iconst 0, 1) := by decide +kernel
theorem dX10_rowOf_6 : decode cX10_rowOf 6 = .ok (.lconst 0, 1) := by decide +kernel
theorem dX10_rowOf_7 : decode cX10_rowOf 7 = .ok (.iload 4, 2) := by decide +kernel
theorem dX10_rowOf_9 : decode cX10_rowOf 9 = .ok (.invokespecial 29, 3) := by decide +kernel
theorem dX10_rowOf_12 : decode cX10_rowOf 12 = .ok (.astore 5, 2) := by decide +kernel
theorem dX10_rowOf_14 : decode cX10_rowOf 14 = .ok (.aload_n 2, 1) := by decide +kernel
theorem dX10_rowOf_15 : decode cX10_rowOf 15 = .ok (.iload_n 3, 1) := by decide +kernel
theorem dX10_rowOf_16 : decode cX10_rowOf 16 = .ok (.i2l, 1) := by decide +kernel
theorem dX10_rowOf_17 : decode cX10_rowOf 17 = .ok (.iload 4, 2) := by decide +kernel
theorem dX10_rowOf_19 : decode cX10_rowOf 19 = .ok (.aload_n 0, 1) := by decide +kernel
theorem dX10_rowOf_20 : decode cX10_rowOf 20 = .ok (.getfield 50, 3) := by decide +kernel
theorem dX10_rowOf_23 : decode cX10_rowOf 23 = .ok (.invokevirtual 146, 3) := by decide +kernel
theorem dX10_rowOf_26 : decode cX10_rowOf 26 = .ok (.iconst 0, 1) := by decide +kernel
theorem dX10_rowOf_27 : decode cX10_rowOf 27 = .ok (.istore 6, 2) := by decide +kernel
theorem dX10_rowOf_29 : decode cX10_rowOf 29 = .ok (.iload 6, 2) := by decide +kernel
theorem dX10_rowOf_31 : decode cX10_rowOf 31 = .ok (.iload 4, 2) := by decide +kernel
theorem dX10_rowOf_33 : decode cX10_rowOf 33 = .ok (.if_icmp .ge 30, 3) := by decide +kernel
theorem dX10_rowOf_36 : decode cX10_rowOf 36 = .ok (.aload 5, 2) := by decide +kernel
theorem dX10_rowOf_38 : decode cX10_rowOf 38 = .ok (.getfield 287, 3) := by decide +kernel
theorem dX10_rowOf_41 : decode cX10_rowOf 41 = .ok (.iload 6, 2) := by decide +kernel
theorem dX10_rowOf_43 : decode cX10_rowOf 43 = .ok (.iload_n 1, 1) := by decide +kernel
theorem dX10_rowOf_44 : decode cX10_rowOf 44 = .ok (.aload_n 0, 1) := by decide +kernel
theorem dX10_rowOf_45 : decode cX10_rowOf 45 = .ok (.getfield 50, 3) := by decide +kernel
theorem dX10_rowOf_48 : decode cX10_rowOf 48 = .ok (.iload 6, 2) := by decide +kernel
theorem dX10_rowOf_50 : decode cX10_rowOf 50 = .ok (.iconst 1, 1) := by decide +kernel
theorem dX10_rowOf_51 : decode cX10_rowOf 51 = .ok (.iadd, 1) := by decide +kernel
theorem dX10_rowOf_52 : decode cX10_rowOf 52 = .ok (.laload, 1) := by decide +kernel
theorem dX10_rowOf_53 : decode cX10_rowOf 53 = .ok (.invokestatic 290, 3) := by decide +kernel
theorem dX10_rowOf_56 : decode cX10_rowOf 56 = .ok (.lastore, 1) := by decide +kernel
theorem dX10_rowOf_57 : decode cX10_rowOf 57 = .ok (.iinc 6 1, 3) := by decide +kernel
theorem dX10_rowOf_60 : decode cX10_rowOf 60 = .ok (.goto (-31), 3) := by decide +kernel
theorem dX10_rowOf_63 : decode cX10_rowOf 63 = .ok (.aload 5, 2) := by decide +kernel
theorem dX10_rowOf_65 : decode cX10_rowOf 65 = .ok (.areturn, 1) := by decide +kernel
theorem dX10_narrowed_0 : decode cX10_narrowed 0 = .ok (.iload_n 0, 1) := by decide +kernel
theorem dX10_narrowed_1 : decode cX10_narrowed 1 = .ok (.tableswitch 45 2 5 #[31, 45, 35, 40], 31) := by decide +kernel
theorem dX10_narrowed_32 : decode cX10_narrowed 32 = .ok (.lload_n 1, 1) := by decide +kernel
theorem dX10_narrowed_33 : decode cX10_narrowed 33 = .ok (.l2i, 1) := by decide +kernel
theorem dX10_narrowed_34 : decode cX10_narrowed 34 = .ok (.i2l, 1) := by decide +kernel
theorem dX10_narrowed_35 : decode cX10_narrowed 35 = .ok (.lreturn, 1) := by decide +kernel
theorem dX10_narrowed_36 : decode cX10_narrowed 36 = .ok (.lload_n 1, 1) := by decide +kernel
theorem dX10_narrowed_37 : decode cX10_narrowed 37 = .ok (.l2i, 1) := by decide +kernel
theorem dX10_narrowed_38 : decode cX10_narrowed 38 = .ok (.i2b, 1) := by decide +kernel
theorem dX10_narrowed_39 : decode cX10_narrowed 39 = .ok (.i2l, 1) := by decide +kernel
theorem dX10_narrowed_40 : decode cX10_narrowed 40 = .ok (.lreturn, 1) := by decide +kernel
theorem dX10_narrowed_41 : decode cX10_narrowed 41 = .ok (.lload_n 1, 1) := by decide +kernel
theorem dX10_narrowed_42 : decode cX10_narrowed 42 = .ok (.l2i, 1) := by decide +kernel
theorem dX10_narrowed_43 : decode cX10_narrowed 43 = .ok (.i2s, 1) := by decide +kernel
theorem dX10_narrowed_44 : decode cX10_narrowed 44 = .ok (.i2l, 1) := by decide +kernel
theorem dX10_narrowed_45 : decode cX10_narrowed 45 = .ok (.lreturn, 1) := by decide +kernel
theorem dX10_narrowed_46 : decode cX10_narrowed 46 = .ok (.lload_n 1, 1) := by decide +kernel
theorem dX10_narrowed_47 : decode cX10_narrowed 47 = .ok (.lreturn, 1) := by decide +kernel
theorem dX10_copyAnswer_0 : decode cX10_copyAnswer 0 = .ok (.iload_n 1, 1) := by decide +kernel
theorem dX10_copyAnswer_1 : decode cX10_copyAnswer 1 = .ok (.ifCond .ge 6, 3) := by decide +kernel
theorem dX10_copyAnswer_4 : decode cX10_copyAnswer 4 = .ok (.bipush (-14), 2) := by decide +kernel
theorem dX10_copyAnswer_6 : decode cX10_copyAnswer 6 = .ok (.ireturn, 1) := by decide +kernel
theorem dX10_copyAnswer_7 : decode cX10_copyAnswer 7 = .ok (.iload_n 2, 1) := by decide +kernel
theorem dX10_copyAnswer_8 : decode cX10_copyAnswer 8 = .ok (.ifCond .lt 17, 3) := by decide +kernel
theorem dX10_copyAnswer_11 : decode cX10_copyAnswer 11 = .ok (.iload_n 2, 1) := by decide +kernel
theorem dX10_copyAnswer_12 : decode cX10_copyAnswer 12 = .ok (.iload_n 1, 1) := by decide +kernel
theorem dX10_copyAnswer_13 : decode cX10_copyAnswer 13 = .ok (.if_icmp .gt 12, 3) := by decide +kernel
theorem dX10_copyAnswer_16 : decode cX10_copyAnswer 16 = .ok (.iload_n 2, 1) := by decide +kernel
theorem dX10_copyAnswer_17 : decode cX10_copyAnswer 17 = .ok (.aload_n 0, 1) := by decide +kernel
theorem dX10_copyAnswer_18 : decode cX10_copyAnswer 18 = .ok (.getfield 287, 3) := by decide +kernel
theorem dX10_copyAnswer_21 : decode cX10_copyAnswer 21 = .ok (.arraylength, 1) := by decide +kernel
theorem dX10_copyAnswer_22 : decode cX10_copyAnswer 22 = .ok (.if_icmp .le 8, 3) := by decide +kernel
theorem dX10_copyAnswer_25 : decode cX10_copyAnswer 25 = .ok (.bipush (-13), 2) := by decide +kernel
theorem dX10_copyAnswer_27 : decode cX10_copyAnswer 27 = .ok (.goto 4, 3) := by decide +kernel
theorem dX10_copyAnswer_30 : decode cX10_copyAnswer 30 = .ok (.iload_n 2, 1) := by decide +kernel
theorem dX10_copyAnswer_31 : decode cX10_copyAnswer 31 = .ok (.ireturn, 1) := by decide +kernel
theorem dX10_rowAnswer_0 : decode cX10_rowAnswer 0 = .ok (.aload_n 0, 1) := by decide +kernel
theorem dX10_rowAnswer_1 : decode cX10_rowAnswer 1 = .ok (.getfield 25, 3) := by decide +kernel
theorem dX10_rowAnswer_4 : decode cX10_rowAnswer 4 = .ok (.iload_n 1, 1) := by decide +kernel
theorem dX10_rowAnswer_5 : decode cX10_rowAnswer 5 = .ok (.aaload, 1) := by decide +kernel
theorem dX10_rowAnswer_6 : decode cX10_rowAnswer 6 = .ok (.astore 5, 2) := by decide +kernel
theorem dX10_rowAnswer_8 : decode cX10_rowAnswer 8 = .ok (.aload 5, 2) := by decide +kernel
theorem dX10_rowAnswer_10 : decode cX10_rowAnswer 10 = .ok (.getfield 287, 3) := by decide +kernel
theorem dX10_rowAnswer_13 : decode cX10_rowAnswer 13 = .ok (.iload_n 3, 1) := by decide +kernel
theorem dX10_rowAnswer_14 : decode cX10_rowAnswer 14 = .ok (.laload, 1) := by decide +kernel
theorem dX10_rowAnswer_15 : decode cX10_rowAnswer 15 = .ok (.lstore 6, 2) := by decide +kernel
theorem dX10_rowAnswer_17 : decode cX10_rowAnswer 17 = .ok (.iload_n 2, 1) := by decide +kernel
theorem dX10_rowAnswer_18 : decode cX10_rowAnswer 18 = .ok (.bipush 6, 2) := by decide +kernel
theorem dX10_rowAnswer_20 : decode cX10_rowAnswer 20 = .ok (.if_icmp .ne 38, 3) := by decide +kernel
theorem dX10_rowAnswer_23 : decode cX10_rowAnswer 23 = .ok (.aload 5, 2) := by decide +kernel
theorem dX10_rowAnswer_25 : decode cX10_rowAnswer 25 = .ok (.getfield 287, 3) := by decide +kernel
