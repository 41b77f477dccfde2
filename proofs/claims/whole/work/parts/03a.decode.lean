theorem dX0_init_0 : decode cX0_init 0 = .ok (.aload_n 0, 1) := by decide +kernel
theorem dX0_init_1 : decode cX0_init 1 = .ok (.invokespecial 3, 3) := by decide +kernel
theorem dX0_init_4 : decode cX0_init 4 = .ok (.aload_n 0, 1) := by decide +kernel
theorem dX0_init_5 : decode cX0_init 5 = .ok (.sipush 1500, 3) := by decide +kernel
theorem dX0_init_8 : decode cX0_init 8 = .ok (.newarray .int, 2) := by decide +kernel
theorem dX0_init_10 : decode cX0_init 10 = .ok (.putfield 9, 3) := by decide +kernel
theorem dX0_init_13 : decode cX0_init 13 = .ok (.aload_n 0, 1) := by decide +kernel
theorem dX0_init_14 : decode cX0_init 14 = .ok (.iconst (-1), 1) := by decide +kernel
theorem dX0_init_15 : decode cX0_init 15 = .ok (.putfield 15, 3) := by decide +kernel
theorem dX0_init_18 : decode cX0_init 18 = .ok (.aload_n 0, 1) := by decide +kernel
theorem dX0_init_19 : decode cX0_init 19 = .ok (.iconst (-1), 1) := by decide +kernel
theorem dX0_init_20 : decode cX0_init 20 = .ok (.putfield 19, 3) := by decide +kernel
theorem dX0_init_23 : decode cX0_init 23 = .ok (.aload_n 0, 1) := by decide +kernel
theorem dX0_init_24 : decode cX0_init 24 = .ok (.new 22, 3) := by decide +kernel
theorem dX0_init_27 : decode cX0_init 27 = .ok (.dup, 1) := by decide +kernel
theorem dX0_init_28 : decode cX0_init 28 = .ok (.invokespecial 24, 3) := by decide +kernel
theorem dX0_init_31 : decode cX0_init 31 = .ok (.putfield 25, 3) := by decide +kernel
theorem dX0_init_34 : decode cX0_init 34 = .ok (.aload_n 0, 1) := by decide +kernel
theorem dX0_init_35 : decode cX0_init 35 = .ok (.new 29, 3) := by decide +kernel
theorem dX0_init_38 : decode cX0_init 38 = .ok (.dup, 1) := by decide +kernel
theorem dX0_init_39 : decode cX0_init 39 = .ok (.invokespecial 31, 3) := by decide +kernel
theorem dX0_init_42 : decode cX0_init 42 = .ok (.putfield 32, 3) := by decide +kernel
theorem dX0_init_45 : decode cX0_init 45 = .ok (.aload_n 0, 1) := by decide +kernel
theorem dX0_init_46 : decode cX0_init 46 = .ok (.sipush 200, 3) := by decide +kernel
theorem dX0_init_49 : decode cX0_init 49 = .ok (.newarray .boolean, 2) := by decide +kernel
theorem dX0_init_51 : decode cX0_init 51 = .ok (.putfield 36, 3) := by decide +kernel
theorem dX0_init_54 : decode cX0_init 54 = .ok (.aload_n 0, 1) := by decide +kernel
theorem dX0_init_55 : decode cX0_init 55 = .ok (.sipush 200, 3) := by decide +kernel
theorem dX0_init_58 : decode cX0_init 58 = .ok (.newarray .int, 2) := by decide +kernel
theorem dX0_init_60 : decode cX0_init 60 = .ok (.putfield 40, 3) := by decide +kernel
theorem dX0_init_63 : decode cX0_init 63 = .ok (.return_, 1) := by decide +kernel
theorem dX0_start_0 : decode cX0_start 0 = .ok (.aload_n 0, 1) := by decide +kernel
theorem dX0_start_1 : decode cX0_start 1 = .ok (.invokevirtual 43, 3) := by decide +kernel
theorem dX0_start_4 : decode cX0_start 4 = .ok (.aload_n 0, 1) := by decide +kernel
theorem dX0_start_5 : decode cX0_start 5 = .ok (.iconst 1, 1) := by decide +kernel
theorem dX0_start_6 : decode cX0_start 6 = .ok (.putfield 46, 3) := by decide +kernel
theorem dX0_start_9 : decode cX0_start 9 = .ok (.return_, 1) := by decide +kernel
theorem dX0_end_0 : decode cX0_end 0 = .ok (.aload_n 0, 1) := by decide +kernel
theorem dX0_end_1 : decode cX0_end 1 = .ok (.iconst 0, 1) := by decide +kernel
theorem dX0_end_2 : decode cX0_end 2 = .ok (.putfield 46, 3) := by decide +kernel
theorem dX0_end_5 : decode cX0_end 5 = .ok (.aload_n 0, 1) := by decide +kernel
theorem dX0_end_6 : decode cX0_end 6 = .ok (.iconst 0, 1) := by decide +kernel
theorem dX0_end_7 : decode cX0_end 7 = .ok (.putfield 50, 3) := by decide +kernel
theorem dX0_end_10 : decode cX0_end 10 = .ok (.aload_n 0, 1) := by decide +kernel
theorem dX0_end_11 : decode cX0_end 11 = .ok (.iconst 0, 1) := by decide +kernel
theorem dX0_end_12 : decode cX0_end 12 = .ok (.putfield 53, 3) := by decide +kernel
theorem dX0_end_15 : decode cX0_end 15 = .ok (.aload_n 0, 1) := by decide +kernel
theorem dX0_end_16 : decode cX0_end 16 = .ok (.iconst (-1), 1) := by decide +kernel
theorem dX0_end_17 : decode cX0_end 17 = .ok (.putfield 15, 3) := by decide +kernel
theorem dX0_end_20 : decode cX0_end 20 = .ok (.aload_n 0, 1) := by decide +kernel
theorem dX0_end_21 : decode cX0_end 21 = .ok (.iconst (-1), 1) := by decide +kernel
theorem dX0_end_22 : decode cX0_end 22 = .ok (.putfield 19, 3) := by decide +kernel
theorem dX0_end_25 : decode cX0_end 25 = .ok (.aload_n 0, 1) := by decide +kernel
theorem dX0_end_26 : decode cX0_end 26 = .ok (.getfield 25, 3) := by decide +kernel
theorem dX0_end_29 : decode cX0_end 29 = .ok (.invokevirtual 56, 3) := by decide +kernel
theorem dX0_end_32 : decode cX0_end 32 = .ok (.aload_n 0, 1) := by decide +kernel
theorem dX0_end_33 : decode cX0_end 33 = .ok (.getfield 32, 3) := by decide +kernel
theorem dX0_end_36 : decode cX0_end 36 = .ok (.invokevirtual 59, 3) := by decide +kernel
theorem dX0_end_39 : decode cX0_end 39 = .ok (.return_, 1) := by decide +kernel
theorem dX0_numberAt_0 : decode cX0_numberAt 0 = .ok (.iload_n 1, 1) := by decide +kernel
theorem dX0_numberAt_1 : decode cX0_numberAt 1 = .ok (.ifCond .lt 19, 3) := by decide +kernel
theorem dX0_numberAt_4 : decode cX0_numberAt 4 = .ok (.iload_n 1, 1) := by decide +kernel
theorem dX0_numberAt_5 : decode cX0_numberAt 5 = .ok (.sipush 1500, 3) := by decide +kernel
theorem dX0_numberAt_8 : decode cX0_numberAt 8 = .ok (.if_icmp .ge 12, 3) := by decide +kernel
theorem dX0_numberAt_11 : decode cX0_numberAt 11 = .ok (.aload_n 0, 1) := by decide +kernel
theorem dX0_numberAt_12 : decode cX0_numberAt 12 = .ok (.getfield 9, 3) := by decide +kernel
theorem dX0_numberAt_15 : decode cX0_numberAt 15 = .ok (.iload_n 1, 1) := by decide +kernel
theorem dX0_numberAt_16 : decode cX0_numberAt 16 = .ok (.iaload, 1) := by decide +kernel
theorem dX0_numberAt_17 : decode cX0_numberAt 17 = .ok (.goto 4, 3) := by decide +kernel
theorem dX0_numberAt_20 : decode cX0_numberAt 20 = .ok (.iconst 0, 1) := by decide +kernel
theorem dX0_numberAt_21 : decode cX0_numberAt 21 = .ok (.ireturn, 1) := by decide +kernel
theorem dX0_setNumber_0 : decode cX0_setNumber 0 = .ok (.iload_n 1, 1) := by decide +kernel
theorem dX0_setNumber_1 : decode cX0_setNumber 1 = .ok (.ifCond .lt 17, 3) := by decide +kernel
theorem dX0_setNumber_4 : decode cX0_setNumber 4 = .ok (.iload_n 1, 1) := by decide +kernel
theorem dX0_setNumber_5 : decode cX0_setNumber 5 = .ok (.sipush 1500, 3) := by decide +kernel
theorem dX0_setNumber_8 : decode cX0_setNumber 8 = .ok (.if_icmp .ge 10, 3) := by decide +kernel
theorem dX0_setNumber_11 : decode cX0_setNumber 11 = .ok (.aload_n 0, 1) := by decide +kernel
theorem dX0_setNumber_12 : decode cX0_setNumber 12 = .ok (.getfield 9, 3) := by decide +kernel
theorem dX0_setNumber_15 : decode cX0_setNumber 15 = .ok (.iload_n 1, 1) := by decide +kernel
theorem dX0_setNumber_16 : decode cX0_setNumber 16 = .ok (.iload_n 2, 1) := by decide +kernel
theorem dX0_setNumber_17 : decode cX0_setNumber 17 = .ok (.iastore, 1) := by decide +kernel
theorem dX0_setNumber_18 : decode cX0_setNumber 18 = .ok (.return_, 1) := by decide +kernel
theorem dX0_take_0 : decode cX0_take 0 = .ok (.aload_n 0, 1) := by decide +kernel
theorem dX0_take_1 : decode cX0_take 1 = .ok (.getfield 53, 3) := by decide +kernel
theorem dX0_take_4 : decode cX0_take 4 = .ok (.ifCond .eq 4, 3) := by decide +kernel
theorem dX0_take_7 : decode cX0_take 7 = .ok (.return_, 1) := by decide +kernel
theorem dX0_take_8 : decode cX0_take 8 = .ok (.aload_n 0, 1) := by decide +kernel
theorem dX0_take_9 : decode cX0_take 9 = .ok (.getfield 50, 3) := by decide +kernel
theorem dX0_take_12 : decode cX0_take 12 = .ok (.istore 4, 2) := by decide +kernel
theorem dX0_take_14 : decode cX0_take 14 = .ok (.bipush 9, 2) := by decide +kernel
theorem dX0_take_16 : decode cX0_take 16 = .ok (.istore 5, 2) := by decide +kernel
theorem dX0_take_18 : decode cX0_take 18 = .ok (.iload 4, 2) := by decide +kernel
theorem dX0_take_20 : decode cX0_take 20 = .ok (.sipush 1500, 3) := by decide +kernel
theorem dX0_take_23 : decode cX0_take 23 = .ok (.if_icmp .ge 42, 3) := by decide +kernel
theorem dX0_take_26 : decode cX0_take 26 = .ok (.aload_n 0, 1) := by decide +kernel
theorem dX0_take_27 : decode cX0_take 27 = .ok (.iload 4, 2) := by decide +kernel
theorem dX0_take_29 : decode cX0_take 29 = .ok (.iload_n 1, 1) := by decide +kernel
theorem dX0_take_30 : decode cX0_take 30 = .ok (.invokevirtual 60, 3) := by decide +kernel
theorem dX0_take_33 : decode cX0_take 33 = .ok (.aload_n 0, 1) := by decide +kernel
theorem dX0_take_34 : decode cX0_take 34 = .ok (.dup, 1) := by decide +kernel
theorem dX0_take_35 : decode cX0_take 35 = .ok (.getfield 50, 3) := by decide +kernel
theorem dX0_take_38 : decode cX0_take 38 = .ok (.iconst 1, 1) := by decide +kernel
theorem dX0_take_39 : decode cX0_take 39 = .ok (.iadd, 1) := by decide +kernel
theorem dX0_take_40 : decode cX0_take 40 = .ok (.putfield 50, 3) := by decide +kernel
theorem dX0_take_43 : decode cX0_take 43 = .ok (.iload 4, 2) := by decide +kernel
theorem dX0_take_45 : decode cX0_take 45 = .ok (.ifCond .ne 11, 3) := by decide +kernel
theorem dX0_take_48 : decode cX0_take 48 = .ok (.iload_n 1, 1) := by decide +kernel
theorem dX0_take_49 : decode cX0_take 49 = .ok (.aload_n 2, 1) := by decide +kernel
theorem dX0_take_50 : decode cX0_take 50 = .ok (.invokestatic 64, 3) := by decide +kernel
theorem dX0_take_53 : decode cX0_take 53 = .ok (.goto 10, 3) := by decide +kernel
theorem dX0_take_56 : decode cX0_take 56 = .ok (.aload_n 0, 1) := by decide +kernel
theorem dX0_take_57 : decode cX0_take 57 = .ok (.iload_n 1, 1) := by decide +kernel
theorem dX0_take_58 : decode cX0_take 58 = .ok (.aload_n 2, 1) := by decide +kernel
theorem dX0_take_59 : decode cX0_take 59 = .ok (.aload_n 3, 1) := by decide +kernel
theorem dX0_take_60 : decode cX0_take 60 = .ok (.invokevirtual 68, 3) := by decide +kernel
theorem dX0_take_63 : decode cX0_take 63 = .ok (.istore 5, 2) := by decide +kernel
theorem dX0_take_65 : decode cX0_take 65 = .ok (.iload 5, 2) := by decide +kernel
theorem dX0_take_67 : decode cX0_take 67 = .ok (.ifCond .eq 35, 3) := by decide +kernel
theorem dX0_take_70 : decode cX0_take 70 = .ok (.aload_n 0, 1) := by decide +kernel
theorem dX0_take_71 : decode cX0_take 71 = .ok (.iload 5, 2) := by decide +kernel
theorem dX0_take_73 : decode cX0_take 73 = .ok (.putfield 53, 3) := by decide +kernel
theorem dX0_take_76 : decode cX0_take 76 = .ok (.aload_n 0, 1) := by decide +kernel
theorem dX0_take_77 : decode cX0_take 77 = .ok (.iload 4, 2) := by decide +kernel
theorem dX0_take_79 : decode cX0_take 79 = .ok (.ifCond .ne 7, 3) := by decide +kernel
theorem dX0_take_82 : decode cX0_take 82 = .ok (.iconst (-1), 1) := by decide +kernel
theorem dX0_take_83 : decode cX0_take 83 = .ok (.goto 10, 3) := by decide +kernel
theorem dX0_take_86 : decode cX0_take 86 = .ok (.aload_n 0, 1) := by decide +kernel
theorem dX0_take_87 : decode cX0_take 87 = .ok (.getfield 25, 3) := by decide +kernel
theorem dX0_take_90 : decode cX0_take 90 = .ok (.getfield 72, 3) := by decide +kernel
theorem dX0_take_93 : decode cX0_take 93 = .ok (.putfield 15, 3) := by decide +kernel
theorem dX0_take_96 : decode cX0_take 96 = .ok (.aload_n 0, 1) := by decide +kernel
theorem dX0_take_97 : decode cX0_take 97 = .ok (.iload 4, 2) := by decide +kernel
theorem dX0_take_99 : decode cX0_take 99 = .ok (.putfield 19, 3) := by decide +kernel
theorem dX0_take_102 : decode cX0_take 102 = .ok (.return_, 1) := by decide +kernel
theorem dX0_faultOfDigest_0 : decode cX0_faultOfDigest 0 = .ok (.iload_n 0, 1) := by decide +kernel
theorem dX0_faultOfDigest_1 : decode cX0_faultOfDigest 1 = .ok (.aload_n 1, 1) := by decide +kernel
theorem dX0_faultOfDigest_2 : decode cX0_faultOfDigest 2 = .ok (.getfield 75, 3) := by decide +kernel
theorem dX0_faultOfDigest_5 : decode cX0_faultOfDigest 5 = .ok (.if_icmp .ne 7, 3) := by decide +kernel
theorem dX0_faultOfDigest_8 : decode cX0_faultOfDigest 8 = .ok (.iconst 0, 1) := by decide +kernel
theorem dX0_faultOfDigest_9 : decode cX0_faultOfDigest 9 = .ok (.goto 4, 3) := by decide +kernel
theorem dX0_faultOfDigest_12 : decode cX0_faultOfDigest 12 = .ok (.iconst 1, 1) := by decide +kernel
theorem dX0_faultOfDigest_13 : decode cX0_faultOfDigest 13 = .ok (.ireturn, 1) := by decide +kernel
theorem dX0_judge_0 : decode cX0_judge 0 = .ok (.aload_n 0, 1) := by decide +kernel
theorem dX0_judge_1 : decode cX0_judge 1 = .ok (.getfield 32, 3) := by decide +kernel
theorem dX0_judge_4 : decode cX0_judge 4 = .ok (.iload_n 1, 1) := by decide +kernel
theorem dX0_judge_5 : decode cX0_judge 5 = .ok (.aload_n 0, 1) := by decide +kernel
theorem dX0_judge_6 : decode cX0_judge 6 = .ok (.getfield 25, 3) := by decide +kernel
theorem dX0_judge_9 : decode cX0_judge 9 = .ok (.aload_n 2, 1) := by decide +kernel
theorem dX0_judge_10 : decode cX0_judge 10 = .ok (.aload_n 3, 1) := by decide +kernel
theorem dX0_judge_11 : decode cX0_judge 11 = .ok (.invokevirtual 80, 3) := by decide +kernel
theorem dX0_judge_14 : decode cX0_judge 14 = .ok (.istore 4, 2) := by decide +kernel
theorem dX0_judge_16 : decode cX0_judge 16 = .ok (.iload 4, 2) := by decide +kernel
theorem dX0_judge_18 : decode cX0_judge 18 = .ok (.ifCond .eq 6, 3) := by decide +kernel
theorem dX0_judge_21 : decode cX0_judge 21 = .ok (.iload 4, 2) := by decide +kernel
theorem dX0_judge_23 : decode cX0_judge 23 = .ok (.ireturn, 1) := by decide +kernel
theorem dX0_judge_24 : decode cX0_judge 24 = .ok (.aload_n 0, 1) := by decide +kernel
theorem dX0_judge_25 : decode cX0_judge 25 = .ok (.getfield 32, 3) := by decide +kernel
theorem dX0_judge_28 : decode cX0_judge 28 = .ok (.iload_n 1, 1) := by decide +kernel
theorem dX0_judge_29 : decode cX0_judge 29 = .ok (.invokevirtual 84, 3) := by decide +kernel
theorem dX0_judge_32 : decode cX0_judge 32 = .ok (.aload_n 0, 1) := by decide +kernel
theorem dX0_judge_33 : decode cX0_judge 33 = .ok (.getfield 32, 3) := by decide +kernel
theorem dX0_judge_36 : decode cX0_judge 36 = .ok (.invokevirtual 88, 3) := by decide +kernel
theorem dX0_judge_39 : decode cX0_judge 39 = .ok (.ifCond .ne 5, 3) := by decide +kernel
theorem dX0_judge_42 : decode cX0_judge 42 = .ok (.iconst 0, 1) := by decide +kernel
theorem dX0_judge_43 : decode cX0_judge 43 = .ok (.ireturn, 1) := by decide +kernel
theorem dX0_judge_44 : decode cX0_judge 44 = .ok (.aload_n 0, 1) := by decide +kernel
theorem dX0_judge_45 : decode cX0_judge 45 = .ok (.getfield 25, 3) := by decide +kernel
theorem dX0_judge_48 : decode cX0_judge 48 = .ok (.invokevirtual 92, 3) := by decide +kernel
theorem dX0_judge_51 : decode cX0_judge 51 = .ok (.astore 5, 2) := by decide +kernel
theorem dX0_judge_53 : decode cX0_judge 53 = .ok (.aload 5, 2) := by decide +kernel
theorem dX0_judge_55 : decode cX0_judge 55 = .ok (.aload_n 0, 1) := by decide +kernel
theorem dX0_judge_56 : decode cX0_judge 56 = .ok (.getfield 50, 3) := by decide +kernel
theorem dX0_judge_59 : decode cX0_judge 59 = .ok (.aload_n 0, 1) := by decide +kernel
theorem dX0_judge_60 : decode cX0_judge 60 = .ok (.getfield 32, 3) := by decide +kernel
theorem dX0_judge_63 : decode cX0_judge 63 = .ok (.getfield 96, 3) := by decide +kernel
theorem dX0_judge_66 : decode cX0_judge 66 = .ok (.isub, 1) := by decide +kernel
theorem dX0_judge_67 : decode cX0_judge 67 = .ok (.putfield 97, 3) := by decide +kernel
theorem dX0_judge_70 : decode cX0_judge 70 = .ok (.aload_n 0, 1) := by decide +kernel
theorem dX0_judge_71 : decode cX0_judge 71 = .ok (.getfield 32, 3) := by decide +kernel
theorem dX0_judge_74 : decode cX0_judge 74 = .ok (.aload 5, 2) := by decide +kernel
theorem dX0_judge_76 : decode cX0_judge 76 = .ok (.aload_n 0, 1) := by decide +kernel
theorem dX0_judge_77 : decode cX0_judge 77 = .ok (.getfield 25, 3) := by decide +kernel
theorem dX0_judge_80 : decode cX0_judge 80 = .ok (.aload_n 2, 1) := by decide +kernel
theorem dX0_judge_81 : decode cX0_judge 81 = .ok (.aload_n 3, 1) := by decide +kernel
theorem dX0_judge_82 : decode cX0_judge 82 = .ok (.invokevirtual 102, 3) := by decide +kernel
theorem dX0_judge_85 : decode cX0_judge 85 = .ok (.istore 4, 2) := by decide +kernel
theorem dX0_judge_87 : decode cX0_judge 87 = .ok (.iload 4, 2) := by decide +kernel
theorem dX0_judge_89 : decode cX0_judge 89 = .ok (.ifCond .eq 6, 3) := by decide +kernel
theorem dX0_judge_92 : decode cX0_judge 92 = .ok (.iload 4, 2) := by decide +kernel
theorem dX0_judge_94 : decode cX0_judge 94 = .ok (.ireturn, 1) := by decide +kernel
theorem dX0_judge_95 : decode cX0_judge 95 = .ok (.aload 5, 2) := by decide +kernel
theorem dX0_judge_97 : decode cX0_judge 97 = .ok (.invokevirtual 106, 3) := by decide +kernel
theorem dX0_judge_100 : decode cX0_judge 100 = .ok (.ifCond .eq 6, 3) := by decide +kernel
theorem dX0_judge_103 : decode cX0_judge 103 = .ok (.bipush 8, 2) := by decide +kernel
theorem dX0_judge_105 : decode cX0_judge 105 = .ok (.ireturn, 1) := by decide +kernel
theorem dX0_judge_106 : decode cX0_judge 106 = .ok (.aload_n 0, 1) := by decide +kernel
theorem dX0_judge_107 : decode cX0_judge 107 = .ok (.getfield 25, 3) := by decide +kernel
theorem dX0_judge_110 : decode cX0_judge 110 = .ok (.invokevirtual 109, 3) := by decide +kernel
theorem dX0_judge_113 : decode cX0_judge 113 = .ok (.aload_n 0, 1) := by decide +kernel
theorem dX0_judge_114 : decode cX0_judge 114 = .ok (.getfield 32, 3) := by decide +kernel
theorem dX0_judge_117 : decode cX0_judge 117 = .ok (.invokevirtual 59, 3) := by decide +kernel
theorem dX0_judge_120 : decode cX0_judge 120 = .ok (.iconst 0, 1) := by decide +kernel
theorem dX0_judge_121 : decode cX0_judge 121 = .ok (.ireturn, 1) := by decide +kernel
theorem dX0_markNeeded_0 : decode cX0_markNeeded 0 = .ok (.iconst 0, 1) := by decide +kernel
theorem dX0_markNeeded_1 : decode cX0_markNeeded 1 = .ok (.istore_n 2, 1) := by decide +kernel
theorem dX0_markNeeded_2 : decode cX0_markNeeded 2 = .ok (.iload_n 2, 1) := by decide +kernel
theorem dX0_markNeeded_3 : decode cX0_markNeeded 3 = .ok (.sipush 200, 3) := by decide +kernel
theorem dX0_markNeeded_6 : decode cX0_markNeeded 6 = .ok (.if_icmp .ge 25, 3) := by decide +kernel
theorem dX0_markNeeded_9 : decode cX0_markNeeded 9 = .ok (.aload_n 0, 1) := by decide +kernel
theorem dX0_markNeeded_10 : decode cX0_markNeeded 10 = .ok (.getfield 36, 3) := by decide +kernel
theorem dX0_markNeeded_13 : decode cX0_markNeeded 13 = .ok (.iload_n 2, 1) := by decide +kernel
theorem dX0_markNeeded_14 : decode cX0_markNeeded 14 = .ok (.iload_n 2, 1) := by decide +kernel
theorem dX0_markNeeded_15 : decode cX0_markNeeded 15 = .ok (.iload_n 1, 1) := by decide +kernel
theorem dX0_markNeeded_16 : decode cX0_markNeeded 16 = .ok (.if_icmp .ne 7, 3) := by decide +kernel
theorem dX0_markNeeded_19 : decode cX0_markNeeded 19 = .ok (.iconst 1, 1) := by decide +kernel
theorem dX0_markNeeded_20 : decode cX0_markNeeded 20 = .ok (.goto 4, 3) := by decide +kernel
theorem dX0_markNeeded_23 : decode cX0_markNeeded 23 = .ok (.iconst 0, 1) := by decide +kernel
theorem dX0_markNeeded_24 : decode cX0_markNeeded 24 = .ok (.bastore, 1) := by decide +kernel
theorem dX0_markNeeded_25 : decode cX0_markNeeded 25 = .ok (.iinc 2 1, 3) := by decide +kernel
theorem dX0_markNeeded_28 : decode cX0_markNeeded 28 = .ok (.goto (-26), 3) := by decide +kernel
theorem dX0_markNeeded_31 : decode cX0_markNeeded 31 = .ok (.iconst 0, 1) := by decide +kernel
theorem dX0_markNeeded_32 : decode cX0_markNeeded 32 = .ok (.istore_n 2, 1) := by decide +kernel
theorem dX0_markNeeded_33 : decode cX0_markNeeded 33 = .ok (.sipush 199, 3) := by decide +kernel
theorem dX0_markNeeded_36 : decode cX0_markNeeded 36 = .ok (.istore_n 3, 1) := by decide +kernel
theorem dX0_markNeeded_37 : decode cX0_markNeeded 37 = .ok (.iload_n 3, 1) := by decide +kernel
theorem dX0_markNeeded_38 : decode cX0_markNeeded 38 = .ok (.ifCond .lt 33, 3) := by decide +kernel
theorem dX0_markNeeded_41 : decode cX0_markNeeded 41 = .ok (.aload_n 0, 1) := by decide +kernel
theorem dX0_markNeeded_42 : decode cX0_markNeeded 42 = .ok (.getfield 36, 3) := by decide +kernel
theorem dX0_markNeeded_45 : decode cX0_markNeeded 45 = .ok (.iload_n 3, 1) := by decide +kernel
theorem dX0_markNeeded_46 : decode cX0_markNeeded 46 = .ok (.baload, 1) := by decide +kernel
theorem dX0_markNeeded_47 : decode cX0_markNeeded 47 = .ok (.ifCond .eq 18, 3) := by decide +kernel
theorem dX0_markNeeded_50 : decode cX0_markNeeded 50 = .ok (.iinc 2 1, 3) := by decide +kernel
theorem dX0_markNeeded_53 : decode cX0_markNeeded 53 = .ok (.aload_n 0, 1) := by decide +kernel
theorem dX0_markNeeded_54 : decode cX0_markNeeded 54 = .ok (.aload_n 0, 1) := by decide +kernel
theorem dX0_markNeeded_55 : decode cX0_markNeeded 55 = .ok (.getfield 25, 3) := by decide +kernel
theorem dX0_markNeeded_58 : decode cX0_markNeeded 58 = .ok (.iload_n 3, 1) := by decide +kernel
theorem dX0_markNeeded_59 : decode cX0_markNeeded 59 = .ok (.invokevirtual 112, 3) := by decide +kernel
theorem dX0_markNeeded_62 : decode cX0_markNeeded 62 = .ok (.invokevirtual 116, 3) := by decide +kernel
theorem dX0_markNeeded_65 : decode cX0_markNeeded 65 = .ok (.iinc 3 (-1), 3) := by decide +kernel
theorem dX0_markNeeded_68 : decode cX0_markNeeded 68 = .ok (.goto (-31), 3) := by decide +kernel
theorem dX0_markNeeded_71 : decode cX0_markNeeded 71 = .ok (.iload_n 2, 1) := by decide +kernel
theorem dX0_markNeeded_72 : decode cX0_markNeeded 72 = .ok (.ireturn, 1) := by decide +kernel
theorem dX0_markSources_0 : decode cX0_markSources 0 = .ok (.iconst 1, 1) := by decide +kernel
theorem dX0_markSources_1 : decode cX0_markSources 1 = .ok (.istore_n 2, 1) := by decide +kernel
theorem dX0_markSources_2 : decode cX0_markSources 2 = .ok (.iload_n 2, 1) := by decide +kernel
theorem dX0_markSources_3 : decode cX0_markSources 3 = .ok (.aload_n 1, 1) := by decide +kernel
theorem dX0_markSources_4 : decode cX0_markSources 4 = .ok (.getfield 120, 3) := by decide +kernel
theorem dX0_markSources_7 : decode cX0_markSources 7 = .ok (.if_icmp .ge 51, 3) := by decide +kernel
theorem dX0_markSources_10 : decode cX0_markSources 10 = .ok (.aload_n 0, 1) := by decide +kernel
theorem dX0_markSources_11 : decode cX0_markSources 11 = .ok (.aload_n 1, 1) := by decide +kernel
theorem dX0_markSources_12 : decode cX0_markSources 12 = .ok (.getfield 97, 3) := by decide +kernel
theorem dX0_markSources_15 : decode cX0_markSources 15 = .ok (.iload_n 2, 1) := by decide +kernel
theorem dX0_markSources_16 : decode cX0_markSources 16 = .ok (.iadd, 1) := by decide +kernel
theorem dX0_markSources_17 : decode cX0_markSources 17 = .ok (.invokevirtual 123, 3) := by decide +kernel
theorem dX0_markSources_20 : decode cX0_markSources 20 = .ok (.istore_n 3, 1) := by decide +kernel
theorem dX0_markSources_21 : decode cX0_markSources 21 = .ok (.aload_n 1, 1) := by decide +kernel
theorem dX0_markSources_22 : decode cX0_markSources 22 = .ok (.getfield 127, 3) := by decide +kernel
theorem dX0_markSources_25 : decode cX0_markSources 25 = .ok (.iload_n 2, 1) := by decide +kernel
theorem dX0_markSources_26 : decode cX0_markSources 26 = .ok (.invokestatic 130, 3) := by decide +kernel
theorem dX0_markSources_29 : decode cX0_markSources 29 = .ok (.bipush 6, 2) := by decide +kernel
theorem dX0_markSources_31 : decode cX0_markSources 31 = .ok (.if_icmp .ne 21, 3) := by decide +kernel
theorem dX0_markSources_34 : decode cX0_markSources 34 = .ok (.aload_n 0, 1) := by decide +kernel
theorem dX0_markSources_35 : decode cX0_markSources 35 = .ok (.getfield 25, 3) := by decide +kernel
theorem dX0_markSources_38 : decode cX0_markSources 38 = .ok (.iload_n 3, 1) := by decide +kernel
theorem dX0_markSources_39 : decode cX0_markSources 39 = .ok (.invokevirtual 134, 3) := by decide +kernel
theorem dX0_markSources_42 : decode cX0_markSources 42 = .ok (.ifCond .eq 10, 3) := by decide +kernel
theorem dX0_markSources_45 : decode cX0_markSources 45 = .ok (.aload_n 0, 1) := by decide +kernel
theorem dX0_markSources_46 : decode cX0_markSources 46 = .ok (.getfield 36, 3) := by decide +kernel
theorem dX0_markSources_49 : decode cX0_markSources 49 = .ok (.iload_n 3, 1) := by decide +kernel
theorem dX0_markSources_50 : decode cX0_markSources 50 = .ok (.iconst 1, 1) := by decide +kernel
theorem dX0_markSources_51 : decode cX0_markSources 51 = .ok (.bastore, 1) := by decide +kernel
theorem dX0_markSources_52 : decode cX0_markSources 52 = .ok (.iinc 2 1, 3) := by decide +kernel
theorem dX0_markSources_55 : decode cX0_markSources 55 = .ok (.goto (-53), 3) := by decide +kernel
theorem dX0_markSources_58 : decode cX0_markSources 58 = .ok (.return_, 1) := by decide +kernel
theorem dX0_closeGaps_0 : decode cX0_closeGaps 0 = .ok (.aload_n 0, 1) := by decide +kernel
theorem dX0_closeGaps_1 : decode cX0_closeGaps 1 = .ok (.iload_n 1, 1) := by decide +kernel
theorem dX0_closeGaps_2 : decode cX0_closeGaps 2 = .ok (.invokevirtual 138, 3) := by decide +kernel
theorem dX0_closeGaps_5 : decode cX0_closeGaps 5 = .ok (.pop, 1) := by decide +kernel
theorem dX0_closeGaps_6 : decode cX0_closeGaps 6 = .ok (.iconst 1, 1) := by decide +kernel
theorem dX0_closeGaps_7 : decode cX0_closeGaps 7 = .ok (.istore_n 2, 1) := by decide +kernel
theorem dX0_closeGaps_8 : decode cX0_closeGaps 8 = .ok (.iconst 0, 1) := by decide +kernel
theorem dX0_closeGaps_9 : decode cX0_closeGaps 9 = .ok (.istore_n 3, 1) := by decide +kernel
theorem dX0_closeGaps_10 : decode cX0_closeGaps 10 = .ok (.iconst 0, 1) := by decide +kernel
theorem dX0_closeGaps_11 : decode cX0_closeGaps 11 = .ok (.istore 4, 2) := by decide +kernel
theorem dX0_closeGaps_13 : decode cX0_closeGaps 13 = .ok (.iload 4, 2) := by decide +kernel
theorem dX0_closeGaps_15 : decode cX0_closeGaps 15 = .ok (.sipush 200, 3) := by decide +kernel
theorem dX0_closeGaps_18 : decode cX0_closeGaps 18 = .ok (.if_icmp .ge 45, 3) := by decide +kernel
theorem dX0_closeGaps_21 : decode cX0_closeGaps 21 = .ok (.aload_n 0, 1) := by decide +kernel
theorem dX0_closeGaps_22 : decode cX0_closeGaps 22 = .ok (.getfield 36, 3) := by decide +kernel
theorem dX0_closeGaps_25 : decode cX0_closeGaps 25 = .ok (.iload 4, 2) := by decide +kernel
theorem dX0_closeGaps_27 : decode cX0_closeGaps 27 = .ok (.baload, 1) := by decide +kernel
theorem dX0_closeGaps_28 : decode cX0_closeGaps 28 = .ok (.ifCond .eq 29, 3) := by decide +kernel
theorem dX0_closeGaps_31 : decode cX0_closeGaps 31 = .ok (.aload_n 0, 1) := by decide +kernel
theorem dX0_closeGaps_32 : decode cX0_closeGaps 32 = .ok (.getfield 40, 3) := by decide +kernel
theorem dX0_closeGaps_35 : decode cX0_closeGaps 35 = .ok (.iload 4, 2) := by decide +kernel
theorem dX0_closeGaps_37 : decode cX0_closeGaps 37 = .ok (.iload_n 3, 1) := by decide +kernel
theorem dX0_closeGaps_38 : decode cX0_closeGaps 38 = .ok (.iastore, 1) := by decide +kernel
theorem dX0_closeGaps_39 : decode cX0_closeGaps 39 = .ok (.iinc 3 1, 3) := by decide +kernel
theorem dX0_closeGaps_42 : decode cX0_closeGaps 42 = .ok (.aload_n 0, 1) := by decide +kernel
theorem dX0_closeGaps_43 : decode cX0_closeGaps 43 = .ok (.aload_n 0, 1) := by decide +kernel
theorem dX0_closeGaps_44 : decode cX0_closeGaps 44 = .ok (.getfield 25, 3) := by decide +kernel
theorem dX0_closeGaps_47 : decode cX0_closeGaps 47 = .ok (.iload 4, 2) := by decide +kernel
theorem dX0_closeGaps_49 : decode cX0_closeGaps 49 = .ok (.invokevirtual 112, 3) := by decide +kernel
theorem dX0_closeGaps_52 : decode cX0_closeGaps 52 = .ok (.iload_n 2, 1) := by decide +kernel
theorem dX0_closeGaps_53 : decode cX0_closeGaps 53 = .ok (.invokevirtual 141, 3) := by decide +kernel
theorem dX0_closeGaps_56 : decode cX0_closeGaps 56 = .ok (.istore_n 2, 1) := by decide +kernel
theorem dX0_closeGaps_57 : decode cX0_closeGaps 57 = .ok (.iinc 4 1, 3) := by decide +kernel
theorem dX0_closeGaps_60 : decode cX0_closeGaps 60 = .ok (.goto (-47), 3) := by decide +kernel
theorem dX0_closeGaps_63 : decode cX0_closeGaps 63 = .ok (.iload_n 2, 1) := by decide +kernel
theorem dX0_closeGaps_64 : decode cX0_closeGaps 64 = .ok (.ireturn, 1) := by decide +kernel
theorem dX0_moveNumbers_0 : decode cX0_moveNumbers 0 = .ok (.iconst 0, 1) := by decide +kernel
theorem dX0_moveNumbers_1 : decode cX0_moveNumbers 1 = .ok (.istore_n 3, 1) := by decide +kernel
theorem dX0_moveNumbers_2 : decode cX0_moveNumbers 2 = .ok (.iload_n 3, 1) := by decide +kernel
theorem dX0_moveNumbers_3 : decode cX0_moveNumbers 3 = .ok (.aload_n 1, 1) := by decide +kernel
theorem dX0_moveNumbers_4 : decode cX0_moveNumbers 4 = .ok (.getfield 120, 3) := by decide +kernel
theorem dX0_moveNumbers_7 : decode cX0_moveNumbers 7 = .ok (.if_icmp .ge 64, 3) := by decide +kernel
theorem dX0_moveNumbers_10 : decode cX0_moveNumbers 10 = .ok (.aload_n 0, 1) := by decide +kernel
theorem dX0_moveNumbers_11 : decode cX0_moveNumbers 11 = .ok (.aload_n 1, 1) := by decide +kernel
theorem dX0_moveNumbers_12 : decode cX0_moveNumbers 12 = .ok (.getfield 97, 3) := by decide +kernel
theorem dX0_moveNumbers_15 : decode cX0_moveNumbers 15 = .ok (.iload_n 3, 1) := by decide +kernel
theorem dX0_moveNumbers_16 : decode cX0_moveNumbers 16 = .ok (.iadd, 1) := by decide +kernel
theorem dX0_moveNumbers_17 : decode cX0_moveNumbers 17 = .ok (.invokevirtual 123, 3) := by decide +kernel
theorem dX0_moveNumbers_20 : decode cX0_moveNumbers 20 = .ok (.istore 4, 2) := by decide +kernel
theorem dX0_moveNumbers_22 : decode cX0_moveNumbers 22 = .ok (.aload_n 1, 1) := by decide +kernel
theorem dX0_moveNumbers_23 : decode cX0_moveNumbers 23 = .ok (.getfield 127, 3) := by decide +kernel
theorem dX0_moveNumbers_26 : decode cX0_moveNumbers 26 = .ok (.iload_n 3, 1) := by decide +kernel
theorem dX0_moveNumbers_27 : decode cX0_moveNumbers 27 = .ok (.invokestatic 130, 3) := by decide +kernel
theorem dX0_moveNumbers_30 : decode cX0_moveNumbers 30 = .ok (.bipush 6, 2) := by decide +kernel
theorem dX0_moveNumbers_32 : decode cX0_moveNumbers 32 = .ok (.if_icmp .ne 24, 3) := by decide +kernel
theorem dX0_moveNumbers_35 : decode cX0_moveNumbers 35 = .ok (.aload_n 0, 1) := by decide +kernel
theorem dX0_moveNumbers_36 : decode cX0_moveNumbers 36 = .ok (.getfield 25, 3) := by decide +kernel
theorem dX0_moveNumbers_39 : decode cX0_moveNumbers 39 = .ok (.iload 4, 2) := by decide +kernel
theorem dX0_moveNumbers_41 : decode cX0_moveNumbers 41 = .ok (.invokevirtual 134, 3) := by decide +kernel
theorem dX0_moveNumbers_44 : decode cX0_moveNumbers 44 = .ok (.ifCond .eq 12, 3) := by decide +kernel
theorem dX0_moveNumbers_47 : decode cX0_moveNumbers 47 = .ok (.aload_n 0, 1) := by decide +kernel
theorem dX0_moveNumbers_48 : decode cX0_moveNumbers 48 = .ok (.getfield 40, 3) := by decide +kernel
theorem dX0_moveNumbers_51 : decode cX0_moveNumbers 51 = .ok (.iload 4, 2) := by decide +kernel
theorem dX0_moveNumbers_53 : decode cX0_moveNumbers 53 = .ok (.iaload, 1) := by decide +kernel
theorem dX0_moveNumbers_54 : decode cX0_moveNumbers 54 = .ok (.istore 4, 2) := by decide +kernel
theorem dX0_moveNumbers_56 : decode cX0_moveNumbers 56 = .ok (.aload_n 0, 1) := by decide +kernel
theorem dX0_moveNumbers_57 : decode cX0_moveNumbers 57 = .ok (.iload_n 2, 1) := by decide +kernel
theorem dX0_moveNumbers_58 : decode cX0_moveNumbers 58 = .ok (.iload_n 3, 1) := by decide +kernel
theorem dX0_moveNumbers_59 : decode cX0_moveNumbers 59 = .ok (.iadd, 1) := by decide +kernel
theorem dX0_moveNumbers_60 : decode cX0_moveNumbers 60 = .ok (.iload 4, 2) := by decide +kernel
theorem dX0_moveNumbers_62 : decode cX0_moveNumbers 62 = .ok (.invokevirtual 60, 3) := by decide +kernel
theorem dX0_moveNumbers_65 : decode cX0_moveNumbers 65 = .ok (.iinc 3 1, 3) := by decide +kernel
theorem dX0_moveNumbers_68 : decode cX0_moveNumbers 68 = .ok (.goto (-66), 3) := by decide +kernel
theorem dX0_moveNumbers_71 : decode cX0_moveNumbers 71 = .ok (.iload_n 2, 1) := by decide +kernel
theorem dX0_moveNumbers_72 : decode cX0_moveNumbers 72 = .ok (.aload_n 1, 1) := by decide +kernel
theorem dX0_moveNumbers_73 : decode cX0_moveNumbers 73 = .ok (.getfield 120, 3) := by decide +kernel
theorem dX0_moveNumbers_76 : decode cX0_moveNumbers 76 = .ok (.iadd, 1) := by decide +kernel
theorem dX0_moveNumbers_77 : decode cX0_moveNumbers 77 = .ok (.ireturn, 1) := by decide +kernel
theorem dX1_init_0 : decode cX1_init 0 = .ok (.aload_n 0, 1) := by decide +kernel
theorem dX1_init_1 : decode cX1_init 1 = .ok (.invokespecial 3, 3) := by decide +kernel
theorem dX1_init_4 : decode cX1_init 4 = .ok (.aload_n 0, 1) := by decide +kernel
theorem dX1_init_5 : decode cX1_init 5 = .ok (.bipush 10, 2) := by decide +kernel
theorem dX1_init_7 : decode cX1_init 7 = .ok (.newarray .int, 2) := by decide +kernel
theorem dX1_init_9 : decode cX1_init 9 = .ok (.putfield 9, 3) := by decide +kernel
theorem dX1_init_12 : decode cX1_init 12 = .ok (.return_, 1) := by decide +kernel
theorem dX1_clear_0 : decode cX1_clear 0 = .ok (.aload_n 0, 1) := by decide +kernel
theorem dX1_clear_1 : decode cX1_clear 1 = .ok (.iconst 0, 1) := by decide +kernel
theorem dX1_clear_2 : decode cX1_clear 2 = .ok (.putfield 15, 3) := by decide +kernel
theorem dX1_clear_5 : decode cX1_clear 5 = .ok (.return_, 1) := by decide +kernel
theorem dX1_meaningAt_0 : decode cX1_meaningAt 0 = .ok (.iload_n 1, 1) := by decide +kernel
theorem dX1_meaningAt_1 : decode cX1_meaningAt 1 = .ok (.ifCond .ne 5, 3) := by decide +kernel
theorem dX1_meaningAt_4 : decode cX1_meaningAt 4 = .ok (.iconst 0, 1) := by decide +kernel
theorem dX1_meaningAt_5 : decode cX1_meaningAt 5 = .ok (.ireturn, 1) := by decide +kernel
theorem dX1_meaningAt_6 : decode cX1_meaningAt 6 = .ok (.iload_n 0, 1) := by decide +kernel
theorem dX1_meaningAt_7 : decode cX1_meaningAt 7 = .ok (.tableswitch 132 0 9 #[53, 55, 55, 57, 68, 91, 104, 126, 129, 132], 53) := by decide +kernel
theorem dX1_meaningAt_60 : decode cX1_meaningAt 60 = .ok (.iconst 1, 1) := by decide +kernel
theorem dX1_meaningAt_61 : decode cX1_meaningAt 61 = .ok (.ireturn, 1) := by decide +kernel
theorem dX1_meaningAt_62 : decode cX1_meaningAt 62 = .ok (.iconst 2, 1) := by decide +kernel
theorem dX1_meaningAt_63 : decode cX1_meaningAt 63 = .ok (.ireturn, 1) := by decide +kernel
theorem dX1_meaningAt_64 : decode cX1_meaningAt 64 = .ok (.iload_n 1, 1) := by decide +kernel
theorem dX1_meaningAt_65 : decode cX1_meaningAt 65 = .ok (.iconst 1, 1) := by decide +kernel
theorem dX1_meaningAt_66 : decode cX1_meaningAt 66 = .ok (.if_icmp .ne 7, 3) := by decide +kernel
theorem dX1_meaningAt_69 : decode cX1_meaningAt 69 = .ok (.iconst 3, 1) := by decide +kernel
theorem dX1_meaningAt_70 : decode cX1_meaningAt 70 = .ok (.goto 4, 3) := by decide +kernel
theorem dX1_meaningAt_73 : decode cX1_meaningAt 73 = .ok (.iconst 4, 1) := by decide +kernel
theorem dX1_meaningAt_74 : decode cX1_meaningAt 74 = .ok (.ireturn, 1) := by decide +kernel
theorem dX1_meaningAt_75 : decode cX1_meaningAt 75 = .ok (.iload_n 1, 1) := by decide +kernel
theorem dX1_meaningAt_76 : decode cX1_meaningAt 76 = .ok (.iconst 1, 1) := by decide +kernel
theorem dX1_meaningAt_77 : decode cX1_meaningAt 77 = .ok (.if_icmp .ne 7, 3) := by decide +kernel
theorem dX1_meaningAt_80 : decode cX1_meaningAt 80 = .ok (.iconst 5, 1) := by decide +kernel
theorem dX1_meaningAt_81 : decode cX1_meaningAt 81 = .ok (.goto 16, 3) := by decide +kernel
theorem dX1_meaningAt_84 : decode cX1_meaningAt 84 = .ok (.iload_n 1, 1) := by decide +kernel
theorem dX1_meaningAt_85 : decode cX1_meaningAt 85 = .ok (.iconst 1, 1) := by decide +kernel
theorem dX1_meaningAt_86 : decode cX1_meaningAt 86 = .ok (.iand, 1) := by decide +kernel
theorem dX1_meaningAt_87 : decode cX1_meaningAt 87 = .ok (.ifCond .ne 8, 3) := by decide +kernel
theorem dX1_meaningAt_90 : decode cX1_meaningAt 90 = .ok (.bipush 6, 2) := by decide +kernel
theorem dX1_meaningAt_92 : decode cX1_meaningAt 92 = .ok (.goto 5, 3) := by decide +kernel
theorem dX1_meaningAt_95 : decode cX1_meaningAt 95 = .ok (.bipush 7, 2) := by decide +kernel
theorem dX1_meaningAt_97 : decode cX1_meaningAt 97 = .ok (.ireturn, 1) := by decide +kernel
theorem dX1_meaningAt_98 : decode cX1_meaningAt 98 = .ok (.iload_n 1, 1) := by decide +kernel
theorem dX1_meaningAt_99 : decode cX1_meaningAt 99 = .ok (.iconst 1, 1) := by decide +kernel
theorem dX1_meaningAt_100 : decode cX1_meaningAt 100 = .ok (.if_icmp .ne 8, 3) := by decide +kernel
theorem dX1_meaningAt_103 : decode cX1_meaningAt 103 = .ok (.bipush 6, 2) := by decide +kernel
theorem dX1_meaningAt_105 : decode cX1_meaningAt 105 = .ok (.goto 5, 3) := by decide +kernel
theorem dX1_meaningAt_108 : decode cX1_meaningAt 108 = .ok (.bipush 8, 2) := by decide +kernel
theorem dX1_meaningAt_110 : decode cX1_meaningAt 110 = .ok (.ireturn, 1) := by decide +kernel
theorem dX1_meaningAt_111 : decode cX1_meaningAt 111 = .ok (.iload_n 1, 1) := by decide +kernel
theorem dX1_meaningAt_112 : decode cX1_meaningAt 112 = .ok (.iconst 1, 1) := by decide +kernel
theorem dX1_meaningAt_113 : decode cX1_meaningAt 113 = .ok (.if_icmp .ne 7, 3) := by decide +kernel
theorem dX1_meaningAt_116 : decode cX1_meaningAt 116 = .ok (.iconst 2, 1) := by decide +kernel
theorem dX1_meaningAt_117 : decode cX1_meaningAt 117 = .ok (.goto 15, 3) := by decide +kernel
theorem dX1_meaningAt_120 : decode cX1_meaningAt 120 = .ok (.iload_n 1, 1) := by decide +kernel
theorem dX1_meaningAt_121 : decode cX1_meaningAt 121 = .ok (.iconst 2, 1) := by decide +kernel
theorem dX1_meaningAt_122 : decode cX1_meaningAt 122 = .ok (.if_icmp .ne 8, 3) := by decide +kernel
theorem dX1_meaningAt_125 : decode cX1_meaningAt 125 = .ok (.bipush 9, 2) := by decide +kernel
theorem dX1_meaningAt_127 : decode cX1_meaningAt 127 = .ok (.goto 5, 3) := by decide +kernel
theorem dX1_meaningAt_130 : decode cX1_meaningAt 130 = .ok (.bipush 10, 2) := by decide +kernel
theorem dX1_meaningAt_132 : decode cX1_meaningAt 132 = .ok (.ireturn, 1) := by decide +kernel
theorem dX1_meaningAt_133 : decode cX1_meaningAt 133 = .ok (.bipush 6, 2) := by decide +kernel
theorem dX1_meaningAt_135 : decode cX1_meaningAt 135 = .ok (.ireturn, 1) := by decide +kernel
theorem dX1_meaningAt_136 : decode cX1_meaningAt 136 = .ok (.bipush 11, 2) := by decide +kernel
theorem dX1_meaningAt_138 : decode cX1_meaningAt 138 = .ok (.ireturn, 1) := by decide +kernel
theorem dX1_meaningAt_139 : decode cX1_meaningAt 139 = .ok (.iload_n 1, 1) := by decide +kernel
theorem dX1_meaningAt_140 : decode cX1_meaningAt 140 = .ok (.iconst 1, 1) := by decide +kernel
theorem dX1_meaningAt_141 : decode cX1_meaningAt 141 = .ok (.if_icmp .ne 8, 3) := by decide +kernel
theorem dX1_meaningAt_144 : decode cX1_meaningAt 144 = .ok (.bipush 6, 2) := by decide +kernel
theorem dX1_meaningAt_146 : decode cX1_meaningAt 146 = .ok (.goto 4, 3) := by decide +kernel
theorem dX1_meaningAt_149 : decode cX1_meaningAt 149 = .ok (.iconst 2, 1) := by decide +kernel
theorem dX1_meaningAt_150 : decode cX1_meaningAt 150 = .ok (.ireturn, 1) := by decide +kernel
theorem dX1_wholeLength_0 : decode cX1_wholeLength 0 = .ok (.aload_n 0, 1) := by decide +kernel
theorem dX1_wholeLength_1 : decode cX1_wholeLength 1 = .ok (.getfield 9, 3) := by decide +kernel
theorem dX1_wholeLength_4 : decode cX1_wholeLength 4 = .ok (.iconst 0, 1) := by decide +kernel
theorem dX1_wholeLength_5 : decode cX1_wholeLength 5 = .ok (.iaload, 1) := by decide +kernel
theorem dX1_wholeLength_6 : decode cX1_wholeLength 6 = .ok (.tableswitch 59 3 9 #[53, 42, 55, 53, 57, 59, 55], 42) := by decide +kernel
theorem dX1_wholeLength_48 : decode cX1_wholeLength 48 = .ok (.iconst 2, 1) := by decide +kernel
theorem dX1_wholeLength_49 : decode cX1_wholeLength 49 = .ok (.iconst 2, 1) := by decide +kernel
theorem dX1_wholeLength_50 : decode cX1_wholeLength 50 = .ok (.aload_n 0, 1) := by decide +kernel
theorem dX1_wholeLength_51 : decode cX1_wholeLength 51 = .ok (.getfield 9, 3) := by decide +kernel
theorem dX1_wholeLength_54 : decode cX1_wholeLength 54 = .ok (.iconst 1, 1) := by decide +kernel
theorem dX1_wholeLength_55 : decode cX1_wholeLength 55 = .ok (.iaload, 1) := by decide +kernel
theorem dX1_wholeLength_56 : decode cX1_wholeLength 56 = .ok (.imul, 1) := by decide +kernel
theorem dX1_wholeLength_57 : decode cX1_wholeLength 57 = .ok (.iadd, 1) := by decide +kernel
theorem dX1_wholeLength_58 : decode cX1_wholeLength 58 = .ok (.ireturn, 1) := by decide +kernel
theorem dX1_wholeLength_59 : decode cX1_wholeLength 59 = .ok (.iconst 4, 1) := by decide +kernel
theorem dX1_wholeLength_60 : decode cX1_wholeLength 60 = .ok (.ireturn, 1) := by decide +kernel
theorem dX1_wholeLength_61 : decode cX1_wholeLength 61 = .ok (.iconst 3, 1) := by decide +kernel
theorem dX1_wholeLength_62 : decode cX1_wholeLength 62 = .ok (.ireturn, 1) := by decide +kernel
theorem dX1_wholeLength_63 : decode cX1_wholeLength 63 = .ok (.iconst 5, 1) := by decide +kernel
theorem dX1_wholeLength_64 : decode cX1_wholeLength 64 = .ok (.ireturn, 1) := by decide +kernel
theorem dX1_wholeLength_65 : decode cX1_wholeLength 65 = .ok (.iconst 2, 1) := by decide +kernel
theorem dX1_wholeLength_66 : decode cX1_wholeLength 66 = .ok (.ireturn, 1) := by decide +kernel
theorem dX1_isWhole_0 : decode cX1_isWhole 0 = .ok (.aload_n 0, 1) := by decide +kernel
theorem dX1_isWhole_1 : decode cX1_isWhole 1 = .ok (.getfield 15, 3) := by decide +kernel
theorem dX1_isWhole_4 : decode cX1_isWhole 4 = .ok (.iconst 2, 1) := by decide +kernel
theorem dX1_isWhole_5 : decode cX1_isWhole 5 = .ok (.if_icmp .lt 18, 3) := by decide +kernel
theorem dX1_isWhole_8 : decode cX1_isWhole 8 = .ok (.aload_n 0, 1) := by decide +kernel
theorem dX1_isWhole_9 : decode cX1_isWhole 9 = .ok (.getfield 15, 3) := by decide +kernel
theorem dX1_isWhole_12 : decode cX1_isWhole 12 = .ok (.aload_n 0, 1) := by decide +kernel
theorem dX1_isWhole_13 : decode cX1_isWhole 13 = .ok (.invokevirtual 19, 3) := by decide +kernel
theorem dX1_isWhole_16 : decode cX1_isWhole 16 = .ok (.if_icmp .lt 7, 3) := by decide +kernel
theorem dX1_isWhole_19 : decode cX1_isWhole 19 = .ok (.iconst 1, 1) := by decide +kernel
theorem dX1_isWhole_20 : decode cX1_isWhole 20 = .ok (.goto 4, 3) := by decide +kernel
theorem dX1_isWhole_23 : decode cX1_isWhole 23 = .ok (.iconst 0, 1) := by decide +kernel
theorem dX1_isWhole_24 : decode cX1_isWhole 24 = .ok (.ireturn, 1) := by decide +kernel
theorem dX1_add_0 : decode cX1_add 0 = .ok (.aload_n 0, 1) := by decide +kernel
theorem dX1_add_1 : decode cX1_add 1 = .ok (.getfield 15, 3) := by decide +kernel
theorem dX1_add_4 : decode cX1_add 4 = .ok (.ifCond .lt 35, 3) := by decide +kernel
theorem dX1_add_7 : decode cX1_add 7 = .ok (.aload_n 0, 1) := by decide +kernel
theorem dX1_add_8 : decode cX1_add 8 = .ok (.getfield 15, 3) := by decide +kernel
theorem dX1_add_11 : decode cX1_add 11 = .ok (.aload_n 0, 1) := by decide +kernel
theorem dX1_add_12 : decode cX1_add 12 = .ok (.getfield 9, 3) := by decide +kernel
theorem dX1_add_15 : decode cX1_add 15 = .ok (.arraylength, 1) := by decide +kernel
theorem dX1_add_16 : decode cX1_add 16 = .ok (.if_icmp .ge 23, 3) := by decide +kernel
theorem dX1_add_19 : decode cX1_add 19 = .ok (.aload_n 0, 1) := by decide +kernel
theorem dX1_add_20 : decode cX1_add 20 = .ok (.getfield 9, 3) := by decide +kernel
theorem dX1_add_23 : decode cX1_add 23 = .ok (.aload_n 0, 1) := by decide +kernel
theorem dX1_add_24 : decode cX1_add 24 = .ok (.getfield 15, 3) := by decide +kernel
theorem dX1_add_27 : decode cX1_add 27 = .ok (.iload_n 1, 1) := by decide +kernel
theorem dX1_add_28 : decode cX1_add 28 = .ok (.iastore, 1) := by decide +kernel
theorem dX1_add_29 : decode cX1_add 29 = .ok (.aload_n 0, 1) := by decide +kernel
theorem dX1_add_30 : decode cX1_add 30 = .ok (.dup, 1) := by decide +kernel
theorem dX1_add_31 : decode cX1_add 31 = .ok (.getfield 15, 3) := by decide +kernel
theorem dX1_add_34 : decode cX1_add 34 = .ok (.iconst 1, 1) := by decide +kernel
theorem dX1_add_35 : decode cX1_add 35 = .ok (.iadd, 1) := by decide +kernel
theorem dX1_add_36 : decode cX1_add 36 = .ok (.putfield 15, 3) := by decide +kernel
theorem dX1_add_39 : decode cX1_add 39 = .ok (.return_, 1) := by decide +kernel
theorem dX1_faultOf_0 : decode cX1_faultOf 0 = .ok (.aload_n 0, 1) := by decide +kernel
theorem dX1_faultOf_1 : decode cX1_faultOf 1 = .ok (.getfield 9, 3) := by decide +kernel
theorem dX1_faultOf_4 : decode cX1_faultOf 4 = .ok (.iconst 0, 1) := by decide +kernel
theorem dX1_faultOf_5 : decode cX1_faultOf 5 = .ok (.iaload, 1) := by decide +kernel
theorem dX1_faultOf_6 : decode cX1_faultOf 6 = .ok (.aload_n 0, 1) := by decide +kernel
theorem dX1_faultOf_7 : decode cX1_faultOf 7 = .ok (.getfield 15, 3) := by decide +kernel
theorem dX1_faultOf_10 : decode cX1_faultOf 10 = .ok (.invokestatic 23, 3) := by decide +kernel
theorem dX1_faultOf_13 : decode cX1_faultOf 13 = .ok (.tableswitch 186 0 11 #[63, 113, 127, 83, 141, 150, 69, 157, 166, 175, 186, 97], 63) := by decide +kernel
theorem dX1_faultOf_76 : decode cX1_faultOf 76 = .ok (.iload_n 1, 1) := by decide +kernel
theorem dX1_faultOf_77 : decode cX1_faultOf 77 = .ok (.aload_n 2, 1) := by decide +kernel
theorem dX1_faultOf_78 : decode cX1_faultOf 78 = .ok (.invokestatic 27, 3) := by decide +kernel
theorem dX1_faultOf_81 : decode cX1_faultOf 81 = .ok (.ireturn, 1) := by decide +kernel
theorem dX1_faultOf_82 : decode cX1_faultOf 82 = .ok (.aload_n 2, 1) := by decide +kernel
theorem dX1_faultOf_83 : decode cX1_faultOf 83 = .ok (.iload_n 1, 1) := by decide +kernel
theorem dX1_faultOf_84 : decode cX1_faultOf 84 = .ok (.invokevirtual 31, 3) := by decide +kernel
theorem dX1_faultOf_87 : decode cX1_faultOf 87 = .ok (.ifCond .eq 7, 3) := by decide +kernel
theorem dX1_faultOf_90 : decode cX1_faultOf 90 = .ok (.iconst 0, 1) := by decide +kernel
theorem dX1_faultOf_91 : decode cX1_faultOf 91 = .ok (.goto 4, 3) := by decide +kernel
theorem dX1_faultOf_94 : decode cX1_faultOf 94 = .ok (.iconst 4, 1) := by decide +kernel
theorem dX1_faultOf_95 : decode cX1_faultOf 95 = .ok (.ireturn, 1) := by decide +kernel
theorem dX1_faultOf_96 : decode cX1_faultOf 96 = .ok (.aload_n 3, 1) := by decide +kernel
theorem dX1_faultOf_97 : decode cX1_faultOf 97 = .ok (.iload_n 1, 1) := by decide +kernel
theorem dX1_faultOf_98 : decode cX1_faultOf 98 = .ok (.invokevirtual 37, 3) := by decide +kernel
theorem dX1_faultOf_101 : decode cX1_faultOf 101 = .ok (.ifCond .eq 7, 3) := by decide +kernel
theorem dX1_faultOf_104 : decode cX1_faultOf 104 = .ok (.iconst 0, 1) := by decide +kernel
theorem dX1_faultOf_105 : decode cX1_faultOf 105 = .ok (.goto 4, 3) := by decide +kernel
theorem dX1_faultOf_108 : decode cX1_faultOf 108 = .ok (.iconst 4, 1) := by decide +kernel
theorem dX1_faultOf_109 : decode cX1_faultOf 109 = .ok (.ireturn, 1) := by decide +kernel
theorem dX1_faultOf_110 : decode cX1_faultOf 110 = .ok (.iload_n 1, 1) := by decide +kernel
theorem dX1_faultOf_111 : decode cX1_faultOf 111 = .ok (.aload_n 3, 1) := by decide +kernel
theorem dX1_faultOf_112 : decode cX1_faultOf 112 = .ok (.aload 4, 2) := by decide +kernel
theorem dX1_faultOf_114 : decode cX1_faultOf 114 = .ok (.invokestatic 42, 3) := by decide +kernel
theorem dX1_faultOf_117 : decode cX1_faultOf 117 = .ok (.ifCond .eq 7, 3) := by decide +kernel
theorem dX1_faultOf_120 : decode cX1_faultOf 120 = .ok (.iconst 0, 1) := by decide +kernel
theorem dX1_faultOf_121 : decode cX1_faultOf 121 = .ok (.goto 4, 3) := by decide +kernel
theorem dX1_faultOf_124 : decode cX1_faultOf 124 = .ok (.iconst 4, 1) := by decide +kernel
theorem dX1_faultOf_125 : decode cX1_faultOf 125 = .ok (.ireturn, 1) := by decide +kernel
theorem dX1_faultOf_126 : decode cX1_faultOf 126 = .ok (.aload_n 3, 1) := by decide +kernel
theorem dX1_faultOf_127 : decode cX1_faultOf 127 = .ok (.iload_n 1, 1) := by decide +kernel
theorem dX1_faultOf_128 : decode cX1_faultOf 128 = .ok (.invokevirtual 46, 3) := by decide +kernel
theorem dX1_faultOf_131 : decode cX1_faultOf 131 = .ok (.ifCond .eq 7, 3) := by decide +kernel
theorem dX1_faultOf_134 : decode cX1_faultOf 134 = .ok (.iconst 0, 1) := by decide +kernel
theorem dX1_faultOf_135 : decode cX1_faultOf 135 = .ok (.goto 4, 3) := by decide +kernel
theorem dX1_faultOf_138 : decode cX1_faultOf 138 = .ok (.iconst 3, 1) := by decide +kernel
theorem dX1_faultOf_139 : decode cX1_faultOf 139 = .ok (.ireturn, 1) := by decide +kernel
theorem dX1_faultOf_140 : decode cX1_faultOf 140 = .ok (.aload_n 3, 1) := by decide +kernel
theorem dX1_faultOf_141 : decode cX1_faultOf 141 = .ok (.iload_n 1, 1) := by decide +kernel
theorem dX1_faultOf_142 : decode cX1_faultOf 142 = .ok (.invokevirtual 49, 3) := by decide +kernel
theorem dX1_faultOf_145 : decode cX1_faultOf 145 = .ok (.ifCond .eq 7, 3) := by decide +kernel
theorem dX1_faultOf_148 : decode cX1_faultOf 148 = .ok (.iconst 0, 1) := by decide +kernel
theorem dX1_faultOf_149 : decode cX1_faultOf 149 = .ok (.goto 4, 3) := by decide +kernel
theorem dX1_faultOf_152 : decode cX1_faultOf 152 = .ok (.iconst 3, 1) := by decide +kernel
theorem dX1_faultOf_153 : decode cX1_faultOf 153 = .ok (.ireturn, 1) := by decide +kernel
theorem dX1_faultOf_154 : decode cX1_faultOf 154 = .ok (.iload_n 1, 1) := by decide +kernel
theorem dX1_faultOf_155 : decode cX1_faultOf 155 = .ok (.bipush (-100), 2) := by decide +kernel
theorem dX1_faultOf_157 : decode cX1_faultOf 157 = .ok (.bipush 100, 2) := by decide +kernel
theorem dX1_faultOf_159 : decode cX1_faultOf 159 = .ok (.invokestatic 52, 3) := by decide +kernel
theorem dX1_faultOf_162 : decode cX1_faultOf 162 = .ok (.ireturn, 1) := by decide +kernel
theorem dX1_faultOf_163 : decode cX1_faultOf 163 = .ok (.iload_n 1, 1) := by decide +kernel
theorem dX1_faultOf_164 : decode cX1_faultOf 164 = .ok (.iconst 1, 1) := by decide +kernel
theorem dX1_faultOf_165 : decode cX1_faultOf 165 = .ok (.iconst 4, 1) := by decide +kernel
theorem dX1_faultOf_166 : decode cX1_faultOf 166 = .ok (.invokestatic 52, 3) := by decide +kernel
theorem dX1_faultOf_169 : decode cX1_faultOf 169 = .ok (.ireturn, 1) := by decide +kernel
theorem dX1_faultOf_170 : decode cX1_faultOf 170 = .ok (.iload_n 1, 1) := by decide +kernel
theorem dX1_faultOf_171 : decode cX1_faultOf 171 = .ok (.iconst 1, 1) := by decide +kernel
theorem dX1_faultOf_172 : decode cX1_faultOf 172 = .ok (.sipush 1000, 3) := by decide +kernel
theorem dX1_faultOf_175 : decode cX1_faultOf 175 = .ok (.invokestatic 52, 3) := by decide +kernel
theorem dX1_faultOf_178 : decode cX1_faultOf 178 = .ok (.ireturn, 1) := by decide +kernel
theorem dX1_faultOf_179 : decode cX1_faultOf 179 = .ok (.iload_n 1, 1) := by decide +kernel
theorem dX1_faultOf_180 : decode cX1_faultOf 180 = .ok (.iconst 2, 1) := by decide +kernel
theorem dX1_faultOf_181 : decode cX1_faultOf 181 = .ok (.sipush 1000, 3) := by decide +kernel
theorem dX1_faultOf_184 : decode cX1_faultOf 184 = .ok (.invokestatic 52, 3) := by decide +kernel
theorem dX1_faultOf_187 : decode cX1_faultOf 187 = .ok (.ireturn, 1) := by decide +kernel
theorem dX1_faultOf_188 : decode cX1_faultOf 188 = .ok (.iload_n 1, 1) := by decide +kernel
theorem dX1_faultOf_189 : decode cX1_faultOf 189 = .ok (.sipush (-1000), 3) := by decide +kernel
theorem dX1_faultOf_192 : decode cX1_faultOf 192 = .ok (.sipush 1000, 3) := by decide +kernel
theorem dX1_faultOf_195 : decode cX1_faultOf 195 = .ok (.invokestatic 52, 3) := by decide +kernel
theorem dX1_faultOf_198 : decode cX1_faultOf 198 = .ok (.ireturn, 1) := by decide +kernel
theorem dX1_faultOf_199 : decode cX1_faultOf 199 = .ok (.iload_n 1, 1) := by decide +kernel
theorem dX1_faultOf_200 : decode cX1_faultOf 200 = .ok (.iconst 0, 1) := by decide +kernel
theorem dX1_faultOf_201 : decode cX1_faultOf 201 = .ok (.iconst 1, 1) := by decide +kernel
theorem dX1_faultOf_202 : decode cX1_faultOf 202 = .ok (.invokestatic 52, 3) := by decide +kernel
theorem dX1_faultOf_205 : decode cX1_faultOf 205 = .ok (.ireturn, 1) := by decide +kernel
theorem dX1_faultOfKind_0 : decode cX1_faultOfKind 0 = .ok (.iload_n 0, 1) := by decide +kernel
theorem dX1_faultOfKind_1 : decode cX1_faultOfKind 1 = .ok (.iconst 0, 1) := by decide +kernel
theorem dX1_faultOfKind_2 : decode cX1_faultOfKind 2 = .ok (.bipush 9, 2) := by decide +kernel
theorem dX1_faultOfKind_4 : decode cX1_faultOfKind 4 = .ok (.invokestatic 56, 3) := by decide +kernel
theorem dX1_faultOfKind_7 : decode cX1_faultOfKind 7 = .ok (.ifCond .ne 5, 3) := by decide +kernel
theorem dX1_faultOfKind_10 : decode cX1_faultOfKind 10 = .ok (.iconst 2, 1) := by decide +kernel
theorem dX1_faultOfKind_11 : decode cX1_faultOfKind 11 = .ok (.ireturn, 1) := by decide +kernel
theorem dX1_faultOfKind_12 : decode cX1_faultOfKind 12 = .ok (.aload_n 1, 1) := by decide +kernel
theorem dX1_faultOfKind_13 : decode cX1_faultOfKind 13 = .ok (.invokevirtual 62, 3) := by decide +kernel
theorem dX1_faultOfKind_16 : decode cX1_faultOfKind 16 = .ok (.ifCond .ne 16, 3) := by decide +kernel
theorem dX1_faultOfKind_19 : decode cX1_faultOfKind 19 = .ok (.iload_n 0, 1) := by decide +kernel
theorem dX1_faultOfKind_20 : decode cX1_faultOfKind 20 = .ok (.bipush 6, 2) := by decide +kernel
theorem dX1_faultOfKind_22 : decode cX1_faultOfKind 22 = .ok (.if_icmp .ne 13, 3) := by decide +kernel
theorem dX1_faultOfKind_25 : decode cX1_faultOfKind 25 = .ok (.aload_n 1, 1) := by decide +kernel
theorem dX1_faultOfKind_26 : decode cX1_faultOfKind 26 = .ok (.invokevirtual 66, 3) := by decide +kernel
theorem dX1_faultOfKind_29 : decode cX1_faultOfKind 29 = .ok (.ifCond .eq 6, 3) := by decide +kernel
theorem dX1_faultOfKind_32 : decode cX1_faultOfKind 32 = .ok (.bipush 9, 2) := by decide +kernel
theorem dX1_faultOfKind_34 : decode cX1_faultOfKind 34 = .ok (.ireturn, 1) := by decide +kernel
theorem dX1_faultOfKind_35 : decode cX1_faultOfKind 35 = .ok (.iconst 0, 1) := by decide +kernel
theorem dX1_faultOfKind_36 : decode cX1_faultOfKind 36 = .ok (.ireturn, 1) := by decide +kernel
theorem dX1_isGoodPlan_0 : decode cX1_isGoodPlan 0 = .ok (.aload_n 2, 1) := by decide +kernel
theorem dX1_isGoodPlan_1 : decode cX1_isGoodPlan 1 = .ok (.iload_n 0, 1) := by decide +kernel
theorem dX1_isGoodPlan_2 : decode cX1_isGoodPlan 2 = .ok (.invokevirtual 69, 3) := by decide +kernel
theorem dX1_isGoodPlan_5 : decode cX1_isGoodPlan 5 = .ok (.ifCond .eq 20, 3) := by decide +kernel
theorem dX1_isGoodPlan_8 : decode cX1_isGoodPlan 8 = .ok (.aload_n 1, 1) := by decide +kernel
theorem dX1_isGoodPlan_9 : decode cX1_isGoodPlan 9 = .ok (.aload_n 2, 1) := by decide +kernel
theorem dX1_isGoodPlan_10 : decode cX1_isGoodPlan 10 = .ok (.iload_n 0, 1) := by decide +kernel
theorem dX1_isGoodPlan_11 : decode cX1_isGoodPlan 11 = .ok (.invokevirtual 72, 3) := by decide +kernel
theorem dX1_isGoodPlan_14 : decode cX1_isGoodPlan 14 = .ok (.invokevirtual 76, 3) := by decide +kernel
theorem dX1_isGoodPlan_17 : decode cX1_isGoodPlan 17 = .ok (.iconst (-1), 1) := by decide +kernel
theorem dX1_isGoodPlan_18 : decode cX1_isGoodPlan 18 = .ok (.if_icmp .ne 7, 3) := by decide +kernel
theorem dX1_isGoodPlan_21 : decode cX1_isGoodPlan 21 = .ok (.iconst 1, 1) := by decide +kernel
theorem dX1_isGoodPlan_22 : decode cX1_isGoodPlan 22 = .ok (.goto 4, 3) := by decide +kernel
theorem dX1_isGoodPlan_25 : decode cX1_isGoodPlan 25 = .ok (.iconst 0, 1) := by decide +kernel
theorem dX1_isGoodPlan_26 : decode cX1_isGoodPlan 26 = .ok (.ireturn, 1) := by decide +kernel
theorem dX1_faultBeyond_0 : decode cX1_faultBeyond 0 = .ok (.iload_n 0, 1) := by decide +kernel
theorem dX1_faultBeyond_1 : decode cX1_faultBeyond 1 = .ok (.iload_n 1, 1) := by decide +kernel
theorem dX1_faultBeyond_2 : decode cX1_faultBeyond 2 = .ok (.iload_n 2, 1) := by decide +kernel
theorem dX1_faultBeyond_3 : decode cX1_faultBeyond 3 = .ok (.invokestatic 56, 3) := by decide +kernel
theorem dX1_faultBeyond_6 : decode cX1_faultBeyond 6 = .ok (.ifCond .eq 7, 3) := by decide +kernel
theorem dX1_faultBeyond_9 : decode cX1_faultBeyond 9 = .ok (.iconst 0, 1) := by decide +kernel
theorem dX1_faultBeyond_10 : decode cX1_faultBeyond 10 = .ok (.goto 4, 3) := by decide +kernel
theorem dX1_faultBeyond_13 : decode cX1_faultBeyond 13 = .ok (.iconst 3, 1) := by decide +kernel
theorem dX1_faultBeyond_14 : decode cX1_faultBeyond 14 = .ok (.ireturn, 1) := by decide +kernel
theorem dX1_make_0 : decode cX1_make 0 = .ok (.aload_n 1, 1) := by decide +kernel
theorem dX1_make_1 : decode cX1_make 1 = .ok (.aload_n 0, 1) := by decide +kernel
theorem dX1_make_2 : decode cX1_make 2 = .ok (.getfield 9, 3) := by decide +kernel
theorem dX1_make_5 : decode cX1_make 5 = .ok (.iconst 0, 1) := by decide +kernel
theorem dX1_make_6 : decode cX1_make 6 = .ok (.iaload, 1) := by decide +kernel
theorem dX1_make_7 : decode cX1_make 7 = .ok (.putfield 80, 3) := by decide +kernel
theorem dX1_make_10 : decode cX1_make 10 = .ok (.aload_n 1, 1) := by decide +kernel
theorem dX1_make_11 : decode cX1_make 11 = .ok (.aload_n 0, 1) := by decide +kernel
theorem dX1_make_12 : decode cX1_make 12 = .ok (.getfield 15, 3) := by decide +kernel
theorem dX1_make_15 : decode cX1_make 15 = .ok (.putfield 85, 3) := by decide +kernel
theorem dX1_make_18 : decode cX1_make 18 = .ok (.aload_n 0, 1) := by decide +kernel
theorem dX1_make_19 : decode cX1_make 19 = .ok (.getfield 9, 3) := by decide +kernel
theorem dX1_make_22 : decode cX1_make 22 = .ok (.iconst 0, 1) := by decide +kernel
theorem dX1_make_23 : decode cX1_make 23 = .ok (.iaload, 1) := by decide +kernel
theorem dX1_make_24 : decode cX1_make 24 = .ok (.tableswitch 195 0 9 #[56, 69, 93, 120, 145, 152, 173, 179, 186, 195], 56) := by decide +kernel
theorem dX1_make_80 : decode cX1_make 80 = .ok (.aload_n 3, 1) := by decide +kernel
theorem dX1_make_81 : decode cX1_make 81 = .ok (.aload_n 0, 1) := by decide +kernel
theorem dX1_make_82 : decode cX1_make 82 = .ok (.getfield 9, 3) := by decide +kernel
theorem dX1_make_85 : decode cX1_make 85 = .ok (.iconst 1, 1) := by decide +kernel
theorem dX1_make_86 : decode cX1_make 86 = .ok (.iaload, 1) := by decide +kernel
theorem dX1_make_87 : decode cX1_make 87 = .ok (.aload_n 1, 1) := by decide +kernel
theorem dX1_make_88 : decode cX1_make 88 = .ok (.invokevirtual 88, 3) := by decide +kernel
theorem dX1_make_91 : decode cX1_make 91 = .ok (.iconst 0, 1) := by decide +kernel
theorem dX1_make_92 : decode cX1_make 92 = .ok (.ireturn, 1) := by decide +kernel
theorem dX1_make_93 : decode cX1_make 93 = .ok (.aload_n 1, 1) := by decide +kernel
theorem dX1_make_94 : decode cX1_make 94 = .ok (.aload_n 0, 1) := by decide +kernel
theorem dX1_make_95 : decode cX1_make 95 = .ok (.getfield 9, 3) := by decide +kernel
theorem dX1_make_98 : decode cX1_make 98 = .ok (.iconst 1, 1) := by decide +kernel
theorem dX1_make_99 : decode cX1_make 99 = .ok (.iaload, 1) := by decide +kernel
theorem dX1_make_100 : decode cX1_make 100 = .ok (.lconst 1, 1) := by decide +kernel
theorem dX1_make_101 : decode cX1_make 101 = .ok (.aload_n 3, 1) := by decide +kernel
theorem dX1_make_102 : decode cX1_make 102 = .ok (.aload_n 0, 1) := by decide +kernel
theorem dX1_make_103 : decode cX1_make 103 = .ok (.getfield 9, 3) := by decide +kernel
theorem dX1_make_106 : decode cX1_make 106 = .ok (.iconst 1, 1) := by decide +kernel
theorem dX1_make_107 : decode cX1_make 107 = .ok (.iaload, 1) := by decide +kernel
theorem dX1_make_108 : decode cX1_make 108 = .ok (.invokevirtual 92, 3) := by decide +kernel
theorem dX1_make_111 : decode cX1_make 111 = .ok (.i2l, 1) := by decide +kernel
theorem dX1_make_112 : decode cX1_make 112 = .ok (.invokevirtual 96, 3) := by decide +kernel
theorem dX1_make_115 : decode cX1_make 115 = .ok (.iconst 0, 1) := by decide +kernel
theorem dX1_make_116 : decode cX1_make 116 = .ok (.ireturn, 1) := by decide +kernel
theorem dX1_make_117 : decode cX1_make 117 = .ok (.aload_n 1, 1) := by decide +kernel
theorem dX1_make_118 : decode cX1_make 118 = .ok (.aload_n 0, 1) := by decide +kernel
theorem dX1_make_119 : decode cX1_make 119 = .ok (.getfield 9, 3) := by decide +kernel
theorem dX1_make_122 : decode cX1_make 122 = .ok (.iconst 1, 1) := by decide +kernel
theorem dX1_make_123 : decode cX1_make 123 = .ok (.iaload, 1) := by decide +kernel
theorem dX1_make_124 : decode cX1_make 124 = .ok (.ldc2_w 100, 3) := by decide +kernel
theorem dX1_make_127 : decode cX1_make 127 = .ok (.aload_n 3, 1) := by decide +kernel
theorem dX1_make_128 : decode cX1_make 128 = .ok (.aload_n 0, 1) := by decide +kernel
theorem dX1_make_129 : decode cX1_make 129 = .ok (.getfield 9, 3) := by decide +kernel
theorem dX1_make_132 : decode cX1_make 132 = .ok (.iconst 1, 1) := by decide +kernel
theorem dX1_make_133 : decode cX1_make 133 = .ok (.iaload, 1) := by decide +kernel
theorem dX1_make_134 : decode cX1_make 134 = .ok (.invokevirtual 102, 3) := by decide +kernel
theorem dX1_make_137 : decode cX1_make 137 = .ok (.ineg, 1) := by decide +kernel
theorem dX1_make_138 : decode cX1_make 138 = .ok (.i2l, 1) := by decide +kernel
theorem dX1_make_139 : decode cX1_make 139 = .ok (.invokevirtual 96, 3) := by decide +kernel
theorem dX1_make_142 : decode cX1_make 142 = .ok (.iconst 0, 1) := by decide +kernel
theorem dX1_make_143 : decode cX1_make 143 = .ok (.ireturn, 1) := by decide +kernel
theorem dX1_make_144 : decode cX1_make 144 = .ok (.aload_n 3, 1) := by decide +kernel
theorem dX1_make_145 : decode cX1_make 145 = .ok (.aload_n 0, 1) := by decide +kernel
theorem dX1_make_146 : decode cX1_make 146 = .ok (.getfield 9, 3) := by decide +kernel
theorem dX1_make_149 : decode cX1_make 149 = .ok (.iconst 1, 1) := by decide +kernel
theorem dX1_make_150 : decode cX1_make 150 = .ok (.iaload, 1) := by decide +kernel
theorem dX1_make_151 : decode cX1_make 151 = .ok (.aload_n 0, 1) := by decide +kernel
theorem dX1_make_152 : decode cX1_make 152 = .ok (.getfield 9, 3) := by decide +kernel
theorem dX1_make_155 : decode cX1_make 155 = .ok (.iconst 2, 1) := by decide +kernel
theorem dX1_make_156 : decode cX1_make 156 = .ok (.iaload, 1) := by decide +kernel
theorem dX1_make_157 : decode cX1_make 157 = .ok (.aload_n 0, 1) := by decide +kernel
theorem dX1_make_158 : decode cX1_make 158 = .ok (.getfield 9, 3) := by decide +kernel
theorem dX1_make_161 : decode cX1_make 161 = .ok (.iconst 3, 1) := by decide +kernel
theorem dX1_make_162 : decode cX1_make 162 = .ok (.iaload, 1) := by decide +kernel
theorem dX1_make_163 : decode cX1_make 163 = .ok (.aload_n 1, 1) := by decide +kernel
theorem dX1_make_164 : decode cX1_make 164 = .ok (.invokevirtual 105, 3) := by decide +kernel
theorem dX1_make_167 : decode cX1_make 167 = .ok (.iconst 0, 1) := by decide +kernel
theorem dX1_make_168 : decode cX1_make 168 = .ok (.ireturn, 1) := by decide +kernel
theorem dX1_make_169 : decode cX1_make 169 = .ok (.aload_n 0, 1) := by decide +kernel
theorem dX1_make_170 : decode cX1_make 170 = .ok (.aload_n 1, 1) := by decide +kernel
theorem dX1_make_171 : decode cX1_make 171 = .ok (.aload_n 2, 1) := by decide +kernel
theorem dX1_make_172 : decode cX1_make 172 = .ok (.invokevirtual 109, 3) := by decide +kernel
theorem dX1_make_175 : decode cX1_make 175 = .ok (.ireturn, 1) := by decide +kernel
theorem dX1_make_176 : decode cX1_make 176 = .ok (.aload_n 1, 1) := by decide +kernel
theorem dX1_make_177 : decode cX1_make 177 = .ok (.aload_n 2, 1) := by decide +kernel
theorem dX1_make_178 : decode cX1_make 178 = .ok (.aload_n 0, 1) := by decide +kernel
theorem dX1_make_179 : decode cX1_make 179 = .ok (.getfield 9, 3) := by decide +kernel
theorem dX1_make_182 : decode cX1_make 182 = .ok (.iconst 1, 1) := by decide +kernel
theorem dX1_make_183 : decode cX1_make 183 = .ok (.iaload, 1) := by decide +kernel
theorem dX1_make_184 : decode cX1_make 184 = .ok (.invokevirtual 113, 3) := by decide +kernel
theorem dX1_make_187 : decode cX1_make 187 = .ok (.aload_n 0, 1) := by decide +kernel
theorem dX1_make_188 : decode cX1_make 188 = .ok (.getfield 9, 3) := by decide +kernel
theorem dX1_make_191 : decode cX1_make 191 = .ok (.iconst 2, 1) := by decide +kernel
theorem dX1_make_192 : decode cX1_make 192 = .ok (.iaload, 1) := by decide +kernel
theorem dX1_make_193 : decode cX1_make 193 = .ok (.invokestatic 116, 3) := by decide +kernel
theorem dX1_make_196 : decode cX1_make 196 = .ok (.ireturn, 1) := by decide +kernel
theorem dX1_make_197 : decode cX1_make 197 = .ok (.aload_n 0, 1) := by decide +kernel
theorem dX1_make_198 : decode cX1_make 198 = .ok (.aload_n 1, 1) := by decide +kernel
theorem dX1_make_199 : decode cX1_make 199 = .ok (.invokevirtual 120, 3) := by decide +kernel
theorem dX1_make_202 : decode cX1_make 202 = .ok (.ireturn, 1) := by decide +kernel
theorem dX1_make_203 : decode cX1_make 203 = .ok (.aload_n 0, 1) := by decide +kernel
theorem dX1_make_204 : decode cX1_make 204 = .ok (.aload_n 1, 1) := by decide +kernel
theorem dX1_make_205 : decode cX1_make 205 = .ok (.aload_n 2, 1) := by decide +kernel
theorem dX1_make_206 : decode cX1_make 206 = .ok (.invokevirtual 124, 3) := by decide +kernel
theorem dX1_make_209 : decode cX1_make 209 = .ok (.ireturn, 1) := by decide +kernel
theorem dX1_make_210 : decode cX1_make 210 = .ok (.aload_n 0, 1) := by decide +kernel
theorem dX1_make_211 : decode cX1_make 211 = .ok (.aload_n 1, 1) := by decide +kernel
theorem dX1_make_212 : decode cX1_make 212 = .ok (.aload_n 3, 1) := by decide +kernel
theorem dX1_make_213 : decode cX1_make 213 = .ok (.aload 4, 2) := by decide +kernel
theorem dX1_make_215 : decode cX1_make 215 = .ok (.invokevirtual 127, 3) := by decide +kernel
theorem dX1_make_218 : decode cX1_make 218 = .ok (.ireturn, 1) := by decide +kernel
theorem dX1_make_219 : decode cX1_make 219 = .ok (.aload_n 1, 1) := by decide +kernel
theorem dX1_make_220 : decode cX1_make 220 = .ok (.aload_n 2, 1) := by decide +kernel
theorem dX1_make_221 : decode cX1_make 221 = .ok (.aload_n 0, 1) := by decide +kernel
theorem dX1_make_222 : decode cX1_make 222 = .ok (.getfield 9, 3) := by decide +kernel
theorem dX1_make_225 : decode cX1_make 225 = .ok (.iconst 1, 1) := by decide +kernel
theorem dX1_make_226 : decode cX1_make 226 = .ok (.iaload, 1) := by decide +kernel
theorem dX1_make_227 : decode cX1_make 227 = .ok (.invokevirtual 113, 3) := by decide +kernel
theorem dX1_make_230 : decode cX1_make 230 = .ok (.aload_n 0, 1) := by decide +kernel
theorem dX1_make_231 : decode cX1_make 231 = .ok (.getfield 9, 3) := by decide +kernel
theorem dX1_make_234 : decode cX1_make 234 = .ok (.iconst 2, 1) := by decide +kernel
theorem dX1_make_235 : decode cX1_make 235 = .ok (.iaload, 1) := by decide +kernel
theorem dX1_make_236 : decode cX1_make 236 = .ok (.aload_n 3, 1) := by decide +kernel
theorem dX1_make_237 : decode cX1_make 237 = .ok (.invokestatic 131, 3) := by decide +kernel
theorem dX1_make_240 : decode cX1_make 240 = .ok (.ireturn, 1) := by decide +kernel
theorem dX1_fillSum_0 : decode cX1_fillSum 0 = .ok (.iconst 2, 1) := by decide +kernel
theorem dX1_fillSum_1 : decode cX1_fillSum 1 = .ok (.istore_n 3, 1) := by decide +kernel
theorem dX1_fillSum_2 : decode cX1_fillSum 2 = .ok (.iload_n 3, 1) := by decide +kernel
theorem dX1_fillSum_3 : decode cX1_fillSum 3 = .ok (.iconst 1, 1) := by decide +kernel
theorem dX1_fillSum_4 : decode cX1_fillSum 4 = .ok (.iadd, 1) := by decide +kernel
theorem dX1_fillSum_5 : decode cX1_fillSum 5 = .ok (.aload_n 0, 1) := by decide +kernel
theorem dX1_fillSum_6 : decode cX1_fillSum 6 = .ok (.getfield 15, 3) := by decide +kernel
theorem dX1_fillSum_9 : decode cX1_fillSum 9 = .ok (.if_icmp .ge 59, 3) := by decide +kernel
theorem dX1_fillSum_12 : decode cX1_fillSum 12 = .ok (.iload_n 3, 1) := by decide +kernel
theorem dX1_fillSum_13 : decode cX1_fillSum 13 = .ok (.iconst 1, 1) := by decide +kernel
theorem dX1_fillSum_14 : decode cX1_fillSum 14 = .ok (.iadd, 1) := by decide +kernel
theorem dX1_fillSum_15 : decode cX1_fillSum 15 = .ok (.aload_n 0, 1) := by decide +kernel
theorem dX1_fillSum_16 : decode cX1_fillSum 16 = .ok (.getfield 9, 3) := by decide +kernel
theorem dX1_fillSum_19 : decode cX1_fillSum 19 = .ok (.arraylength, 1) := by decide +kernel
theorem dX1_fillSum_20 : decode cX1_fillSum 20 = .ok (.if_icmp .ge 48, 3) := by decide +kernel
theorem dX1_fillSum_23 : decode cX1_fillSum 23 = .ok (.aload_n 2, 1) := by decide +kernel
theorem dX1_fillSum_24 : decode cX1_fillSum 24 = .ok (.aload_n 0, 1) := by decide +kernel
theorem dX1_fillSum_25 : decode cX1_fillSum 25 = .ok (.getfield 9, 3) := by decide +kernel
theorem dX1_fillSum_28 : decode cX1_fillSum 28 = .ok (.iload_n 3, 1) := by decide +kernel
theorem dX1_fillSum_29 : decode cX1_fillSum 29 = .ok (.iaload, 1) := by decide +kernel
theorem dX1_fillSum_30 : decode cX1_fillSum 30 = .ok (.invokevirtual 113, 3) := by decide +kernel
theorem dX1_fillSum_33 : decode cX1_fillSum 33 = .ok (.astore 4, 2) := by decide +kernel
theorem dX1_fillSum_35 : decode cX1_fillSum 35 = .ok (.aload_n 1, 1) := by decide +kernel
theorem dX1_fillSum_36 : decode cX1_fillSum 36 = .ok (.aload 4, 2) := by decide +kernel
theorem dX1_fillSum_38 : decode cX1_fillSum 38 = .ok (.aload_n 0, 1) := by decide +kernel
theorem dX1_fillSum_39 : decode cX1_fillSum 39 = .ok (.getfield 9, 3) := by decide +kernel
theorem dX1_fillSum_42 : decode cX1_fillSum 42 = .ok (.iload_n 3, 1) := by decide +kernel
theorem dX1_fillSum_43 : decode cX1_fillSum 43 = .ok (.iconst 1, 1) := by decide +kernel
theorem dX1_fillSum_44 : decode cX1_fillSum 44 = .ok (.iadd, 1) := by decide +kernel
theorem dX1_fillSum_45 : decode cX1_fillSum 45 = .ok (.iaload, 1) := by decide +kernel
theorem dX1_fillSum_46 : decode cX1_fillSum 46 = .ok (.i2l, 1) := by decide +kernel
theorem dX1_fillSum_47 : decode cX1_fillSum 47 = .ok (.invokevirtual 135, 3) := by decide +kernel
theorem dX1_fillSum_50 : decode cX1_fillSum 50 = .ok (.aload_n 1, 1) := by decide +kernel
theorem dX1_fillSum_51 : decode cX1_fillSum 51 = .ok (.aload 4, 2) := by decide +kernel
theorem dX1_fillSum_53 : decode cX1_fillSum 53 = .ok (.invokevirtual 139, 3) := by decide +kernel
theorem dX1_fillSum_56 : decode cX1_fillSum 56 = .ok (.aload_n 1, 1) := by decide +kernel
theorem dX1_fillSum_57 : decode cX1_fillSum 57 = .ok (.aload 4, 2) := by decide +kernel
theorem dX1_fillSum_59 : decode cX1_fillSum 59 = .ok (.invokevirtual 143, 3) := by decide +kernel
theorem dX1_fillSum_62 : decode cX1_fillSum 62 = .ok (.iinc 3 2, 3) := by decide +kernel
theorem dX1_fillSum_65 : decode cX1_fillSum 65 = .ok (.goto (-63), 3) := by decide +kernel
theorem dX1_fillSum_68 : decode cX1_fillSum 68 = .ok (.iconst 0, 1) := by decide +kernel
theorem dX1_fillSum_69 : decode cX1_fillSum 69 = .ok (.ireturn, 1) := by decide +kernel
theorem dX1_fillDivided_0 : decode cX1_fillDivided 0 = .ok (.iload_n 2, 1) := by decide +kernel
theorem dX1_fillDivided_1 : decode cX1_fillDivided 1 = .ok (.iconst 2, 1) := by decide +kernel
theorem dX1_fillDivided_2 : decode cX1_fillDivided 2 = .ok (.if_icmp .ge 5, 3) := by decide +kernel
theorem dX1_fillDivided_5 : decode cX1_fillDivided 5 = .ok (.iconst 3, 1) := by decide +kernel
theorem dX1_fillDivided_6 : decode cX1_fillDivided 6 = .ok (.ireturn, 1) := by decide +kernel
theorem dX1_fillDivided_7 : decode cX1_fillDivided 7 = .ok (.iconst 0, 1) := by decide +kernel
theorem dX1_fillDivided_8 : decode cX1_fillDivided 8 = .ok (.istore_n 3, 1) := by decide +kernel
theorem dX1_fillDivided_9 : decode cX1_fillDivided 9 = .ok (.iload_n 3, 1) := by decide +kernel
theorem dX1_fillDivided_10 : decode cX1_fillDivided 10 = .ok (.bipush 8, 2) := by decide +kernel
theorem dX1_fillDivided_12 : decode cX1_fillDivided 12 = .ok (.if_icmp .ge 37, 3) := by decide +kernel
theorem dX1_fillDivided_15 : decode cX1_fillDivided 15 = .ok (.aload_n 1, 1) := by decide +kernel
theorem dX1_fillDivided_16 : decode cX1_fillDivided 16 = .ok (.iload_n 3, 1) := by decide +kernel
theorem dX1_fillDivided_17 : decode cX1_fillDivided 17 = .ok (.invokevirtual 146, 3) := by decide +kernel
theorem dX1_fillDivided_20 : decode cX1_fillDivided 20 = .ok (.iload_n 2, 1) := by decide +kernel
theorem dX1_fillDivided_21 : decode cX1_fillDivided 21 = .ok (.i2l, 1) := by decide +kernel
theorem dX1_fillDivided_22 : decode cX1_fillDivided 22 = .ok (.lrem, 1) := by decide +kernel
theorem dX1_fillDivided_23 : decode cX1_fillDivided 23 = .ok (.lconst 0, 1) := by decide +kernel
theorem dX1_fillDivided_24 : decode cX1_fillDivided 24 = .ok (.lcmp, 1) := by decide +kernel
theorem dX1_fillDivided_25 : decode cX1_fillDivided 25 = .ok (.ifCond .eq 5, 3) := by decide +kernel
theorem dX1_fillDivided_28 : decode cX1_fillDivided 28 = .ok (.iconst 5, 1) := by decide +kernel
theorem dX1_fillDivided_29 : decode cX1_fillDivided 29 = .ok (.ireturn, 1) := by decide +kernel
theorem dX1_fillDivided_30 : decode cX1_fillDivided 30 = .ok (.aload_n 0, 1) := by decide +kernel
theorem dX1_fillDivided_31 : decode cX1_fillDivided 31 = .ok (.iload_n 3, 1) := by decide +kernel
theorem dX1_fillDivided_32 : decode cX1_fillDivided 32 = .ok (.aload_n 1, 1) := by decide +kernel
theorem dX1_fillDivided_33 : decode cX1_fillDivided 33 = .ok (.iload_n 3, 1) := by decide +kernel
theorem dX1_fillDivided_34 : decode cX1_fillDivided 34 = .ok (.invokevirtual 146, 3) := by decide +kernel
theorem dX1_fillDivided_37 : decode cX1_fillDivided 37 = .ok (.iload_n 2, 1) := by decide +kernel
theorem dX1_fillDivided_38 : decode cX1_fillDivided 38 = .ok (.i2l, 1) := by decide +kernel
theorem dX1_fillDivided_39 : decode cX1_fillDivided 39 = .ok (.ldiv, 1) := by decide +kernel
theorem dX1_fillDivided_40 : decode cX1_fillDivided 40 = .ok (.invokevirtual 150, 3) := by decide +kernel
theorem dX1_fillDivided_43 : decode cX1_fillDivided 43 = .ok (.iinc 3 1, 3) := by decide +kernel
theorem dX1_fillDivided_46 : decode cX1_fillDivided 46 = .ok (.goto (-37), 3) := by decide +kernel
theorem dX1_fillDivided_49 : decode cX1_fillDivided 49 = .ok (.aload_n 0, 1) := by decide +kernel
theorem dX1_fillDivided_50 : decode cX1_fillDivided 50 = .ok (.aload_n 1, 1) := by decide +kernel
theorem dX1_fillDivided_51 : decode cX1_fillDivided 51 = .ok (.getfield 154, 3) := by decide +kernel
theorem dX1_fillDivided_54 : decode cX1_fillDivided 54 = .ok (.iload_n 2, 1) := by decide +kernel
theorem dX1_fillDivided_55 : decode cX1_fillDivided 55 = .ok (.i2l, 1) := by decide +kernel
theorem dX1_fillDivided_56 : decode cX1_fillDivided 56 = .ok (.invokestatic 158, 3) := by decide +kernel
theorem dX1_fillDivided_59 : decode cX1_fillDivided 59 = .ok (.putfield 154, 3) := by decide +kernel
theorem dX1_fillDivided_62 : decode cX1_fillDivided 62 = .ok (.aload_n 0, 1) := by decide +kernel
theorem dX1_fillDivided_63 : decode cX1_fillDivided 63 = .ok (.aload_n 1, 1) := by decide +kernel
theorem dX1_fillDivided_64 : decode cX1_fillDivided 64 = .ok (.invokevirtual 139, 3) := by decide +kernel
theorem dX1_fillDivided_67 : decode cX1_fillDivided 67 = .ok (.aload_n 0, 1) := by decide +kernel
theorem dX1_fillDivided_68 : decode cX1_fillDivided 68 = .ok (.aload_n 1, 1) := by decide +kernel
theorem dX1_fillDivided_69 : decode cX1_fillDivided 69 = .ok (.invokevirtual 143, 3) := by decide +kernel
theorem dX1_fillDivided_72 : decode cX1_fillDivided 72 = .ok (.iconst 0, 1) := by decide +kernel
theorem dX1_fillDivided_73 : decode cX1_fillDivided 73 = .ok (.ireturn, 1) := by decide +kernel
theorem dX1_fillBranch_0 : decode cX1_fillBranch 0 = .ok (.aload_n 1, 1) := by decide +kernel
theorem dX1_fillBranch_1 : decode cX1_fillBranch 1 = .ok (.aload_n 0, 1) := by decide +kernel
theorem dX1_fillBranch_2 : decode cX1_fillBranch 2 = .ok (.getfield 9, 3) := by decide +kernel
theorem dX1_fillBranch_5 : decode cX1_fillBranch 5 = .ok (.iconst 1, 1) := by decide +kernel
theorem dX1_fillBranch_6 : decode cX1_fillBranch 6 = .ok (.iaload, 1) := by decide +kernel
theorem dX1_fillBranch_7 : decode cX1_fillBranch 7 = .ok (.putfield 164, 3) := by decide +kernel
theorem dX1_fillBranch_10 : decode cX1_fillBranch 10 = .ok (.aload_n 1, 1) := by decide +kernel
theorem dX1_fillBranch_11 : decode cX1_fillBranch 11 = .ok (.aload_n 0, 1) := by decide +kernel
theorem dX1_fillBranch_12 : decode cX1_fillBranch 12 = .ok (.getfield 9, 3) := by decide +kernel
theorem dX1_fillBranch_15 : decode cX1_fillBranch 15 = .ok (.iconst 2, 1) := by decide +kernel
theorem dX1_fillBranch_16 : decode cX1_fillBranch 16 = .ok (.iaload, 1) := by decide +kernel
theorem dX1_fillBranch_17 : decode cX1_fillBranch 17 = .ok (.putfield 167, 3) := by decide +kernel
theorem dX1_fillBranch_20 : decode cX1_fillBranch 20 = .ok (.aload_n 1, 1) := by decide +kernel
theorem dX1_fillBranch_21 : decode cX1_fillBranch 21 = .ok (.aload_n 0, 1) := by decide +kernel
theorem dX1_fillBranch_22 : decode cX1_fillBranch 22 = .ok (.getfield 9, 3) := by decide +kernel
theorem dX1_fillBranch_25 : decode cX1_fillBranch 25 = .ok (.iconst 3, 1) := by decide +kernel
theorem dX1_fillBranch_26 : decode cX1_fillBranch 26 = .ok (.iaload, 1) := by decide +kernel
theorem dX1_fillBranch_27 : decode cX1_fillBranch 27 = .ok (.putfield 170, 3) := by decide +kernel
theorem dX1_fillBranch_30 : decode cX1_fillBranch 30 = .ok (.aload_n 1, 1) := by decide +kernel
theorem dX1_fillBranch_31 : decode cX1_fillBranch 31 = .ok (.getfield 170, 3) := by decide +kernel
theorem dX1_fillBranch_34 : decode cX1_fillBranch 34 = .ok (.ifCond .ne 20, 3) := by decide +kernel
theorem dX1_fillBranch_37 : decode cX1_fillBranch 37 = .ok (.aload_n 1, 1) := by decide +kernel
theorem dX1_fillBranch_38 : decode cX1_fillBranch 38 = .ok (.aload_n 1, 1) := by decide +kernel
theorem dX1_fillBranch_39 : decode cX1_fillBranch 39 = .ok (.getfield 164, 3) := by decide +kernel
theorem dX1_fillBranch_42 : decode cX1_fillBranch 42 = .ok (.lconst 1, 1) := by decide +kernel
theorem dX1_fillBranch_43 : decode cX1_fillBranch 43 = .ok (.aload_n 1, 1) := by decide +kernel
theorem dX1_fillBranch_44 : decode cX1_fillBranch 44 = .ok (.getfield 167, 3) := by decide +kernel
theorem dX1_fillBranch_47 : decode cX1_fillBranch 47 = .ok (.i2l, 1) := by decide +kernel
theorem dX1_fillBranch_48 : decode cX1_fillBranch 48 = .ok (.invokevirtual 96, 3) := by decide +kernel
theorem dX1_fillBranch_51 : decode cX1_fillBranch 51 = .ok (.goto 22, 3) := by decide +kernel
theorem dX1_fillBranch_54 : decode cX1_fillBranch 54 = .ok (.aload_n 1, 1) := by decide +kernel
theorem dX1_fillBranch_55 : decode cX1_fillBranch 55 = .ok (.aload_n 1, 1) := by decide +kernel
theorem dX1_fillBranch_56 : decode cX1_fillBranch 56 = .ok (.getfield 164, 3) := by decide +kernel
theorem dX1_fillBranch_59 : decode cX1_fillBranch 59 = .ok (.ldc2_w 100, 3) := by decide +kernel
theorem dX1_fillBranch_62 : decode cX1_fillBranch 62 = .ok (.aload_n 1, 1) := by decide +kernel
theorem dX1_fillBranch_63 : decode cX1_fillBranch 63 = .ok (.getfield 167, 3) := by decide +kernel
theorem dX1_fillBranch_66 : decode cX1_fillBranch 66 = .ok (.ineg, 1) := by decide +kernel
theorem dX1_fillBranch_67 : decode cX1_fillBranch 67 = .ok (.iconst 1, 1) := by decide +kernel
theorem dX1_fillBranch_68 : decode cX1_fillBranch 68 = .ok (.isub, 1) := by decide +kernel
theorem dX1_fillBranch_69 : decode cX1_fillBranch 69 = .ok (.i2l, 1) := by decide +kernel
theorem dX1_fillBranch_70 : decode cX1_fillBranch 70 = .ok (.invokevirtual 96, 3) := by decide +kernel
theorem dX1_fillBranch_73 : decode cX1_fillBranch 73 = .ok (.iconst 0, 1) := by decide +kernel
theorem dX1_fillBranch_74 : decode cX1_fillBranch 74 = .ok (.ireturn, 1) := by decide +kernel
theorem dX1_fillJoined_0 : decode cX1_fillJoined 0 = .ok (.aload_n 2, 1) := by decide +kernel
theorem dX1_fillJoined_1 : decode cX1_fillJoined 1 = .ok (.aload_n 0, 1) := by decide +kernel
theorem dX1_fillJoined_2 : decode cX1_fillJoined 2 = .ok (.getfield 9, 3) := by decide +kernel
theorem dX1_fillJoined_5 : decode cX1_fillJoined 5 = .ok (.iconst 1, 1) := by decide +kernel
theorem dX1_fillJoined_6 : decode cX1_fillJoined 6 = .ok (.iaload, 1) := by decide +kernel
theorem dX1_fillJoined_7 : decode cX1_fillJoined 7 = .ok (.invokevirtual 113, 3) := by decide +kernel
theorem dX1_fillJoined_10 : decode cX1_fillJoined 10 = .ok (.astore_n 3, 1) := by decide +kernel
theorem dX1_fillJoined_11 : decode cX1_fillJoined 11 = .ok (.aload_n 2, 1) := by decide +kernel
theorem dX1_fillJoined_12 : decode cX1_fillJoined 12 = .ok (.aload_n 0, 1) := by decide +kernel
theorem dX1_fillJoined_13 : decode cX1_fillJoined 13 = .ok (.getfield 9, 3) := by decide +kernel
theorem dX1_fillJoined_16 : decode cX1_fillJoined 16 = .ok (.iconst 2, 1) := by decide +kernel
theorem dX1_fillJoined_17 : decode cX1_fillJoined 17 = .ok (.iaload, 1) := by decide +kernel
theorem dX1_fillJoined_18 : decode cX1_fillJoined 18 = .ok (.invokevirtual 113, 3) := by decide +kernel
theorem dX1_fillJoined_21 : decode cX1_fillJoined 21 = .ok (.astore 4, 2) := by decide +kernel
theorem dX1_fillJoined_23 : decode cX1_fillJoined 23 = .ok (.aload_n 2, 1) := by decide +kernel
theorem dX1_fillJoined_24 : decode cX1_fillJoined 24 = .ok (.aload_n 0, 1) := by decide +kernel
theorem dX1_fillJoined_25 : decode cX1_fillJoined 25 = .ok (.getfield 9, 3) := by decide +kernel
theorem dX1_fillJoined_28 : decode cX1_fillJoined 28 = .ok (.iconst 3, 1) := by decide +kernel
theorem dX1_fillJoined_29 : decode cX1_fillJoined 29 = .ok (.iaload, 1) := by decide +kernel
theorem dX1_fillJoined_30 : decode cX1_fillJoined 30 = .ok (.invokevirtual 113, 3) := by decide +kernel
theorem dX1_fillJoined_33 : decode cX1_fillJoined 33 = .ok (.astore 5, 2) := by decide +kernel
theorem dX1_fillJoined_35 : decode cX1_fillJoined 35 = .ok (.aload_n 2, 1) := by decide +kernel
theorem dX1_fillJoined_36 : decode cX1_fillJoined 36 = .ok (.aload_n 0, 1) := by decide +kernel
theorem dX1_fillJoined_37 : decode cX1_fillJoined 37 = .ok (.getfield 9, 3) := by decide +kernel
theorem dX1_fillJoined_40 : decode cX1_fillJoined 40 = .ok (.iconst 4, 1) := by decide +kernel
theorem dX1_fillJoined_41 : decode cX1_fillJoined 41 = .ok (.iaload, 1) := by decide +kernel
theorem dX1_fillJoined_42 : decode cX1_fillJoined 42 = .ok (.invokevirtual 113, 3) := by decide +kernel
theorem dX1_fillJoined_45 : decode cX1_fillJoined 45 = .ok (.astore 6, 2) := by decide +kernel
theorem dX1_fillJoined_47 : decode cX1_fillJoined 47 = .ok (.aload 5, 2) := by decide +kernel
theorem dX1_fillJoined_49 : decode cX1_fillJoined 49 = .ok (.iconst 0, 1) := by decide +kernel
theorem dX1_fillJoined_50 : decode cX1_fillJoined 50 = .ok (.invokevirtual 173, 3) := by decide +kernel
theorem dX1_fillJoined_53 : decode cX1_fillJoined 53 = .ok (.ifCond .eq 38, 3) := by decide +kernel
theorem dX1_fillJoined_56 : decode cX1_fillJoined 56 = .ok (.aload 6, 2) := by decide +kernel
theorem dX1_fillJoined_58 : decode cX1_fillJoined 58 = .ok (.iconst 1, 1) := by decide +kernel
theorem dX1_fillJoined_59 : decode cX1_fillJoined 59 = .ok (.invokevirtual 173, 3) := by decide +kernel
theorem dX1_fillJoined_62 : decode cX1_fillJoined 62 = .ok (.ifCond .eq 29, 3) := by decide +kernel
theorem dX1_fillJoined_65 : decode cX1_fillJoined 65 = .ok (.aload 5, 2) := by decide +kernel
theorem dX1_fillJoined_67 : decode cX1_fillJoined 67 = .ok (.getfield 164, 3) := by decide +kernel
theorem dX1_fillJoined_70 : decode cX1_fillJoined 70 = .ok (.aload 6, 2) := by decide +kernel
theorem dX1_fillJoined_72 : decode cX1_fillJoined 72 = .ok (.getfield 164, 3) := by decide +kernel
theorem dX1_fillJoined_75 : decode cX1_fillJoined 75 = .ok (.if_icmp .ne 16, 3) := by decide +kernel
theorem dX1_fillJoined_78 : decode cX1_fillJoined 78 = .ok (.aload 5, 2) := by decide +kernel
theorem dX1_fillJoined_80 : decode cX1_fillJoined 80 = .ok (.getfield 167, 3) := by decide +kernel
theorem dX1_fillJoined_83 : decode cX1_fillJoined 83 = .ok (.aload 6, 2) := by decide +kernel
theorem dX1_fillJoined_85 : decode cX1_fillJoined 85 = .ok (.getfield 167, 3) := by decide +kernel
theorem dX1_fillJoined_88 : decode cX1_fillJoined 88 = .ok (.if_icmp .eq 6, 3) := by decide +kernel
theorem dX1_fillJoined_91 : decode cX1_fillJoined 91 = .ok (.bipush 6, 2) := by decide +kernel
theorem dX1_fillJoined_93 : decode cX1_fillJoined 93 = .ok (.ireturn, 1) := by decide +kernel
theorem dX1_fillJoined_94 : decode cX1_fillJoined 94 = .ok (.aload_n 3, 1) := by decide +kernel
theorem dX1_fillJoined_95 : decode cX1_fillJoined 95 = .ok (.aload 4, 2) := by decide +kernel
theorem dX1_fillJoined_97 : decode cX1_fillJoined 97 = .ok (.invokevirtual 176, 3) := by decide +kernel
theorem dX1_fillJoined_100 : decode cX1_fillJoined 100 = .ok (.ifCond .eq 30, 3) := by decide +kernel
theorem dX1_fillJoined_103 : decode cX1_fillJoined 103 = .ok (.aload_n 1, 1) := by decide +kernel
theorem dX1_fillJoined_104 : decode cX1_fillJoined 104 = .ok (.aload_n 3, 1) := by decide +kernel
theorem dX1_fillJoined_105 : decode cX1_fillJoined 105 = .ok (.getfield 154, 3) := by decide +kernel
theorem dX1_fillJoined_108 : decode cX1_fillJoined 108 = .ok (.aload 4, 2) := by decide +kernel
theorem dX1_fillJoined_110 : decode cX1_fillJoined 110 = .ok (.getfield 154, 3) := by decide +kernel
theorem dX1_fillJoined_113 : decode cX1_fillJoined 113 = .ok (.lcmp, 1) := by decide +kernel
theorem dX1_fillJoined_114 : decode cX1_fillJoined 114 = .ok (.ifCond .le 7, 3) := by decide +kernel
theorem dX1_fillJoined_117 : decode cX1_fillJoined 117 = .ok (.aload_n 3, 1) := by decide +kernel
theorem dX1_fillJoined_118 : decode cX1_fillJoined 118 = .ok (.goto 5, 3) := by decide +kernel
theorem dX1_fillJoined_121 : decode cX1_fillJoined 121 = .ok (.aload 4, 2) := by decide +kernel
theorem dX1_fillJoined_123 : decode cX1_fillJoined 123 = .ok (.lconst 1, 1) := by decide +kernel
theorem dX1_fillJoined_124 : decode cX1_fillJoined 124 = .ok (.invokevirtual 135, 3) := by decide +kernel
theorem dX1_fillJoined_127 : decode cX1_fillJoined 127 = .ok (.goto 40, 3) := by decide +kernel
theorem dX1_fillJoined_130 : decode cX1_fillJoined 130 = .ok (.aload_n 3, 1) := by decide +kernel
theorem dX1_fillJoined_131 : decode cX1_fillJoined 131 = .ok (.invokevirtual 180, 3) := by decide +kernel
theorem dX1_fillJoined_134 : decode cX1_fillJoined 134 = .ok (.ifCond .eq 13, 3) := by decide +kernel
theorem dX1_fillJoined_137 : decode cX1_fillJoined 137 = .ok (.aload_n 1, 1) := by decide +kernel
theorem dX1_fillJoined_138 : decode cX1_fillJoined 138 = .ok (.aload 4, 2) := by decide +kernel
theorem dX1_fillJoined_140 : decode cX1_fillJoined 140 = .ok (.lconst 1, 1) := by decide +kernel
theorem dX1_fillJoined_141 : decode cX1_fillJoined 141 = .ok (.invokevirtual 135, 3) := by decide +kernel
theorem dX1_fillJoined_144 : decode cX1_fillJoined 144 = .ok (.goto 23, 3) := by decide +kernel
theorem dX1_fillJoined_147 : decode cX1_fillJoined 147 = .ok (.aload 4, 2) := by decide +kernel
theorem dX1_fillJoined_149 : decode cX1_fillJoined 149 = .ok (.invokevirtual 180, 3) := by decide +kernel
theorem dX1_fillJoined_152 : decode cX1_fillJoined 152 = .ok (.ifCond .eq 12, 3) := by decide +kernel
theorem dX1_fillJoined_155 : decode cX1_fillJoined 155 = .ok (.aload_n 1, 1) := by decide +kernel
theorem dX1_fillJoined_156 : decode cX1_fillJoined 156 = .ok (.aload_n 3, 1) := by decide +kernel
theorem dX1_fillJoined_157 : decode cX1_fillJoined 157 = .ok (.lconst 1, 1) := by decide +kernel
theorem dX1_fillJoined_158 : decode cX1_fillJoined 158 = .ok (.invokevirtual 135, 3) := by decide +kernel
theorem dX1_fillJoined_161 : decode cX1_fillJoined 161 = .ok (.goto 6, 3) := by decide +kernel
theorem dX1_fillJoined_164 : decode cX1_fillJoined 164 = .ok (.bipush 7, 2) := by decide +kernel
theorem dX1_fillJoined_166 : decode cX1_fillJoined 166 = .ok (.ireturn, 1) := by decide +kernel
theorem dX1_fillJoined_167 : decode cX1_fillJoined 167 = .ok (.aload_n 1, 1) := by decide +kernel
theorem dX1_fillJoined_168 : decode cX1_fillJoined 168 = .ok (.aload_n 3, 1) := by decide +kernel
theorem dX1_fillJoined_169 : decode cX1_fillJoined 169 = .ok (.getfield 183, 3) := by decide +kernel
theorem dX1_fillJoined_172 : decode cX1_fillJoined 172 = .ok (.aload 5, 2) := by decide +kernel
theorem dX1_fillJoined_174 : decode cX1_fillJoined 174 = .ok (.getfield 183, 3) := by decide +kernel
theorem dX1_fillJoined_177 : decode cX1_fillJoined 177 = .ok (.ldc2_w 100, 3) := by decide +kernel
theorem dX1_fillJoined_180 : decode cX1_fillJoined 180 = .ok (.lxor, 1) := by decide +kernel
theorem dX1_fillJoined_181 : decode cX1_fillJoined 181 = .ok (.land, 1) := by decide +kernel
theorem dX1_fillJoined_182 : decode cX1_fillJoined 182 = .ok (.aload 4, 2) := by decide +kernel
theorem dX1_fillJoined_184 : decode cX1_fillJoined 184 = .ok (.getfield 183, 3) := by decide +kernel
theorem dX1_fillJoined_187 : decode cX1_fillJoined 187 = .ok (.aload 6, 2) := by decide +kernel
theorem dX1_fillJoined_189 : decode cX1_fillJoined 189 = .ok (.getfield 183, 3) := by decide +kernel
theorem dX1_fillJoined_192 : decode cX1_fillJoined 192 = .ok (.ldc2_w 100, 3) := by decide +kernel
theorem dX1_fillJoined_195 : decode cX1_fillJoined 195 = .ok (.lxor, 1) := by decide +kernel
theorem dX1_fillJoined_196 : decode cX1_fillJoined 196 = .ok (.land, 1) := by decide +kernel
theorem dX1_fillJoined_197 : decode cX1_fillJoined 197 = .ok (.lor, 1) := by decide +kernel
theorem dX1_fillJoined_198 : decode cX1_fillJoined 198 = .ok (.putfield 183, 3) := by decide +kernel
theorem dX1_fillJoined_201 : decode cX1_fillJoined 201 = .ok (.aload_n 1, 1) := by decide +kernel
theorem dX1_fillJoined_202 : decode cX1_fillJoined 202 = .ok (.aload_n 3, 1) := by decide +kernel
theorem dX1_fillJoined_203 : decode cX1_fillJoined 203 = .ok (.invokevirtual 143, 3) := by decide +kernel
theorem dX1_fillJoined_206 : decode cX1_fillJoined 206 = .ok (.aload_n 1, 1) := by decide +kernel
theorem dX1_fillJoined_207 : decode cX1_fillJoined 207 = .ok (.aload 4, 2) := by decide +kernel
theorem dX1_fillJoined_209 : decode cX1_fillJoined 209 = .ok (.invokevirtual 143, 3) := by decide +kernel
theorem dX1_fillJoined_212 : decode cX1_fillJoined 212 = .ok (.iconst 0, 1) := by decide +kernel
theorem dX1_fillJoined_213 : decode cX1_fillJoined 213 = .ok (.ireturn, 1) := by decide +kernel
theorem dX1_fillBetter_0 : decode cX1_fillBetter 0 = .ok (.aload_n 2, 1) := by decide +kernel
theorem dX1_fillBetter_1 : decode cX1_fillBetter 1 = .ok (.aload_n 3, 1) := by decide +kernel
theorem dX1_fillBetter_2 : decode cX1_fillBetter 2 = .ok (.aload_n 0, 1) := by decide +kernel
theorem dX1_fillBetter_3 : decode cX1_fillBetter 3 = .ok (.getfield 9, 3) := by decide +kernel
theorem dX1_fillBetter_6 : decode cX1_fillBetter 6 = .ok (.iconst 1, 1) := by decide +kernel
theorem dX1_fillBetter_7 : decode cX1_fillBetter 7 = .ok (.iaload, 1) := by decide +kernel
theorem dX1_fillBetter_8 : decode cX1_fillBetter 8 = .ok (.invokevirtual 72, 3) := by decide +kernel
theorem dX1_fillBetter_11 : decode cX1_fillBetter 11 = .ok (.invokevirtual 186, 3) := by decide +kernel
theorem dX1_fillBetter_14 : decode cX1_fillBetter 14 = .ok (.lstore 4, 2) := by decide +kernel
theorem dX1_fillBetter_16 : decode cX1_fillBetter 16 = .ok (.aload_n 2, 1) := by decide +kernel
theorem dX1_fillBetter_17 : decode cX1_fillBetter 17 = .ok (.aload_n 1, 1) := by decide +kernel
theorem dX1_fillBetter_18 : decode cX1_fillBetter 18 = .ok (.invokevirtual 190, 3) := by decide +kernel
theorem dX1_fillBetter_21 : decode cX1_fillBetter 21 = .ok (.aload_n 1, 1) := by decide +kernel
theorem dX1_fillBetter_22 : decode cX1_fillBetter 22 = .ok (.lload 4, 2) := by decide +kernel
theorem dX1_fillBetter_24 : decode cX1_fillBetter 24 = .ok (.lconst 1, 1) := by decide +kernel
theorem dX1_fillBetter_25 : decode cX1_fillBetter 25 = .ok (.lsub, 1) := by decide +kernel
theorem dX1_fillBetter_26 : decode cX1_fillBetter 26 = .ok (.putfield 154, 3) := by decide +kernel
theorem dX1_fillBetter_29 : decode cX1_fillBetter 29 = .ok (.aload_n 1, 1) := by decide +kernel
theorem dX1_fillBetter_30 : decode cX1_fillBetter 30 = .ok (.lload 4, 2) := by decide +kernel
theorem dX1_fillBetter_32 : decode cX1_fillBetter 32 = .ok (.invokevirtual 193, 3) := by decide +kernel
theorem dX1_fillBetter_35 : decode cX1_fillBetter 35 = .ok (.iconst 0, 1) := by decide +kernel
theorem dX1_fillBetter_36 : decode cX1_fillBetter 36 = .ok (.ireturn, 1) := by decide +kernel
theorem dX1_fillPushed_0 : decode cX1_fillPushed 0 = .ok (.aload_n 1, 1) := by decide +kernel
theorem dX1_fillPushed_1 : decode cX1_fillPushed 1 = .ok (.iload_n 2, 1) := by decide +kernel
theorem dX1_fillPushed_2 : decode cX1_fillPushed 2 = .ok (.invokevirtual 146, 3) := by decide +kernel
theorem dX1_fillPushed_5 : decode cX1_fillPushed 5 = .ok (.lstore 4, 2) := by decide +kernel
theorem dX1_fillPushed_7 : decode cX1_fillPushed 7 = .ok (.lload 4, 2) := by decide +kernel
theorem dX1_fillPushed_9 : decode cX1_fillPushed 9 = .ok (.lconst 0, 1) := by decide +kernel
theorem dX1_fillPushed_10 : decode cX1_fillPushed 10 = .ok (.lcmp, 1) := by decide +kernel
theorem dX1_fillPushed_11 : decode cX1_fillPushed 11 = .ok (.ifCond .ne 5, 3) := by decide +kernel
theorem dX1_fillPushed_14 : decode cX1_fillPushed 14 = .ok (.iconst 5, 1) := by decide +kernel
theorem dX1_fillPushed_15 : decode cX1_fillPushed 15 = .ok (.ireturn, 1) := by decide +kernel
theorem dX1_fillPushed_16 : decode cX1_fillPushed 16 = .ok (.aload_n 1, 1) := by decide +kernel
theorem dX1_fillPushed_17 : decode cX1_fillPushed 17 = .ok (.getfield 154, 3) := by decide +kernel
theorem dX1_fillPushed_20 : decode cX1_fillPushed 20 = .ok (.lstore 6, 2) := by decide +kernel
theorem dX1_fillPushed_22 : decode cX1_fillPushed 22 = .ok (.iconst 0, 1) := by decide +kernel
theorem dX1_fillPushed_23 : decode cX1_fillPushed 23 = .ok (.istore 8, 2) := by decide +kernel
theorem dX1_fillPushed_25 : decode cX1_fillPushed 25 = .ok (.iload 8, 2) := by decide +kernel
theorem dX1_fillPushed_27 : decode cX1_fillPushed 27 = .ok (.bipush 8, 2) := by decide +kernel
theorem dX1_fillPushed_29 : decode cX1_fillPushed 29 = .ok (.if_icmp .ge 59, 3) := by decide +kernel
theorem dX1_fillPushed_32 : decode cX1_fillPushed 32 = .ok (.iload 8, 2) := by decide +kernel
theorem dX1_fillPushed_34 : decode cX1_fillPushed 34 = .ok (.iload_n 2, 1) := by decide +kernel
theorem dX1_fillPushed_35 : decode cX1_fillPushed 35 = .ok (.if_icmp .eq 47, 3) := by decide +kernel
theorem dX1_fillPushed_38 : decode cX1_fillPushed 38 = .ok (.aload_n 1, 1) := by decide +kernel
theorem dX1_fillPushed_39 : decode cX1_fillPushed 39 = .ok (.iload 8, 2) := by decide +kernel
theorem dX1_fillPushed_41 : decode cX1_fillPushed 41 = .ok (.invokevirtual 146, 3) := by decide +kernel
theorem dX1_fillPushed_44 : decode cX1_fillPushed 44 = .ok (.aload_n 3, 1) := by decide +kernel
theorem dX1_fillPushed_45 : decode cX1_fillPushed 45 = .ok (.iload 8, 2) := by decide +kernel
theorem dX1_fillPushed_47 : decode cX1_fillPushed 47 = .ok (.invokevirtual 102, 3) := by decide +kernel
theorem dX1_fillPushed_50 : decode cX1_fillPushed 50 = .ok (.i2l, 1) := by decide +kernel
theorem dX1_fillPushed_51 : decode cX1_fillPushed 51 = .ok (.lmul, 1) := by decide +kernel
theorem dX1_fillPushed_52 : decode cX1_fillPushed 52 = .ok (.lstore 9, 2) := by decide +kernel
theorem dX1_fillPushed_54 : decode cX1_fillPushed 54 = .ok (.aload_n 1, 1) := by decide +kernel
theorem dX1_fillPushed_55 : decode cX1_fillPushed 55 = .ok (.iload 8, 2) := by decide +kernel
theorem dX1_fillPushed_57 : decode cX1_fillPushed 57 = .ok (.invokevirtual 146, 3) := by decide +kernel
theorem dX1_fillPushed_60 : decode cX1_fillPushed 60 = .ok (.aload_n 3, 1) := by decide +kernel
theorem dX1_fillPushed_61 : decode cX1_fillPushed 61 = .ok (.iload 8, 2) := by decide +kernel
theorem dX1_fillPushed_63 : decode cX1_fillPushed 63 = .ok (.invokevirtual 92, 3) := by decide +kernel
theorem dX1_fillPushed_66 : decode cX1_fillPushed 66 = .ok (.i2l, 1) := by decide +kernel
theorem dX1_fillPushed_67 : decode cX1_fillPushed 67 = .ok (.lmul, 1) := by decide +kernel
theorem dX1_fillPushed_68 : decode cX1_fillPushed 68 = .ok (.lstore 11, 2) := by decide +kernel
theorem dX1_fillPushed_70 : decode cX1_fillPushed 70 = .ok (.lload 6, 2) := by decide +kernel
theorem dX1_fillPushed_72 : decode cX1_fillPushed 72 = .ok (.lload 9, 2) := by decide +kernel
theorem dX1_fillPushed_74 : decode cX1_fillPushed 74 = .ok (.lload 11, 2) := by decide +kernel
theorem dX1_fillPushed_76 : decode cX1_fillPushed 76 = .ok (.invokestatic 197, 3) := by decide +kernel
theorem dX1_fillPushed_79 : decode cX1_fillPushed 79 = .ok (.lsub, 1) := by decide +kernel
theorem dX1_fillPushed_80 : decode cX1_fillPushed 80 = .ok (.lstore 6, 2) := by decide +kernel
theorem dX1_fillPushed_82 : decode cX1_fillPushed 82 = .ok (.iinc 8 1, 3) := by decide +kernel
theorem dX1_fillPushed_85 : decode cX1_fillPushed 85 = .ok (.goto (-60), 3) := by decide +kernel
theorem dX1_fillPushed_88 : decode cX1_fillPushed 88 = .ok (.lload 4, 2) := by decide +kernel
theorem dX1_fillPushed_90 : decode cX1_fillPushed 90 = .ok (.lconst 0, 1) := by decide +kernel
theorem dX1_fillPushed_91 : decode cX1_fillPushed 91 = .ok (.lcmp, 1) := by decide +kernel
theorem dX1_fillPushed_92 : decode cX1_fillPushed 92 = .ok (.ifCond .le 19, 3) := by decide +kernel
theorem dX1_fillPushed_95 : decode cX1_fillPushed 95 = .ok (.aload_n 0, 1) := by decide +kernel
theorem dX1_fillPushed_96 : decode cX1_fillPushed 96 = .ok (.iload_n 2, 1) := by decide +kernel
theorem dX1_fillPushed_97 : decode cX1_fillPushed 97 = .ok (.lconst 1, 1) := by decide +kernel
theorem dX1_fillPushed_98 : decode cX1_fillPushed 98 = .ok (.lload 6, 2) := by decide +kernel
theorem dX1_fillPushed_100 : decode cX1_fillPushed 100 = .ok (.lload 4, 2) := by decide +kernel
theorem dX1_fillPushed_102 : decode cX1_fillPushed 102 = .ok (.invokestatic 158, 3) := by decide +kernel
theorem dX1_fillPushed_105 : decode cX1_fillPushed 105 = .ok (.invokevirtual 96, 3) := by decide +kernel
theorem dX1_fillPushed_108 : decode cX1_fillPushed 108 = .ok (.goto 19, 3) := by decide +kernel
theorem dX1_fillPushed_111 : decode cX1_fillPushed 111 = .ok (.aload_n 0, 1) := by decide +kernel
theorem dX1_fillPushed_112 : decode cX1_fillPushed 112 = .ok (.iload_n 2, 1) := by decide +kernel
theorem dX1_fillPushed_113 : decode cX1_fillPushed 113 = .ok (.ldc2_w 100, 3) := by decide +kernel
theorem dX1_fillPushed_116 : decode cX1_fillPushed 116 = .ok (.lload 6, 2) := by decide +kernel
theorem dX1_fillPushed_118 : decode cX1_fillPushed 118 = .ok (.lload 4, 2) := by decide +kernel
theorem dX1_fillPushed_120 : decode cX1_fillPushed 120 = .ok (.lneg, 1) := by decide +kernel
theorem dX1_fillPushed_121 : decode cX1_fillPushed 121 = .ok (.invokestatic 158, 3) := by decide +kernel
theorem dX1_fillPushed_124 : decode cX1_fillPushed 124 = .ok (.invokevirtual 96, 3) := by decide +kernel
theorem dX1_fillPushed_127 : decode cX1_fillPushed 127 = .ok (.aload_n 0, 1) := by decide +kernel
theorem dX1_fillPushed_128 : decode cX1_fillPushed 128 = .ok (.aload_n 1, 1) := by decide +kernel
theorem dX1_fillPushed_129 : decode cX1_fillPushed 129 = .ok (.invokevirtual 139, 3) := by decide +kernel
theorem dX1_fillPushed_132 : decode cX1_fillPushed 132 = .ok (.aload_n 0, 1) := by decide +kernel
theorem dX1_fillPushed_133 : decode cX1_fillPushed 133 = .ok (.aload_n 1, 1) := by decide +kernel
theorem dX1_fillPushed_134 : decode cX1_fillPushed 134 = .ok (.invokevirtual 143, 3) := by decide +kernel
theorem dX1_fillPushed_137 : decode cX1_fillPushed 137 = .ok (.iconst 0, 1) := by decide +kernel
theorem dX1_fillPushed_138 : decode cX1_fillPushed 138 = .ok (.ireturn, 1) := by decide +kernel
theorem dX2_init_0 : decode cX2_init 0 = .ok (.aload_n 0, 1) := by decide +kernel
theorem dX2_init_1 : decode cX2_init 1 = .ok (.invokespecial 3, 3) := by decide +kernel
theorem dX2_init_4 : decode cX2_init 4 = .ok (.aload_n 0, 1) := by decide +kernel
theorem dX2_init_5 : decode cX2_init 5 = .ok (.bipush 8, 2) := by decide +kernel
theorem dX2_init_7 : decode cX2_init 7 = .ok (.newarray .int, 2) := by decide +kernel
theorem dX2_init_9 : decode cX2_init 9 = .ok (.putfield 9, 3) := by decide +kernel
theorem dX2_init_12 : decode cX2_init 12 = .ok (.aload_n 0, 1) := by decide +kernel
theorem dX2_init_13 : decode cX2_init 13 = .ok (.bipush 8, 2) := by decide +kernel
theorem dX2_init_15 : decode cX2_init 15 = .ok (.newarray .int, 2) := by decide +kernel
theorem dX2_init_17 : decode cX2_init 17 = .ok (.putfield 15, 3) := by decide +kernel
theorem dX2_init_20 : decode cX2_init 20 = .ok (.aload_n 0, 1) := by decide +kernel
theorem dX2_init_21 : decode cX2_init 21 = .ok (.bipush 8, 2) := by decide +kernel
theorem dX2_init_23 : decode cX2_init 23 = .ok (.newarray .int, 2) := by decide +kernel
theorem dX2_init_25 : decode cX2_init 25 = .ok (.putfield 18, 3) := by decide +kernel
theorem dX2_init_28 : decode cX2_init 28 = .ok (.aload_n 0, 1) := by decide +kernel
theorem dX2_init_29 : decode cX2_init 29 = .ok (.bipush 20, 2) := by decide +kernel
theorem dX2_init_31 : decode cX2_init 31 = .ok (.bipush 8, 2) := by decide +kernel
theorem dX2_init_33 : decode cX2_init 33 = .ok (.multianewarray 21 2, 4) := by decide +kernel
theorem dX2_init_37 : decode cX2_init 37 = .ok (.putfield 23, 3) := by decide +kernel
theorem dX2_init_40 : decode cX2_init 40 = .ok (.aload_n 0, 1) := by decide +kernel
theorem dX2_init_41 : decode cX2_init 41 = .ok (.bipush 20, 2) := by decide +kernel
theorem dX2_init_43 : decode cX2_init 43 = .ok (.newarray .int, 2) := by decide +kernel
theorem dX2_init_45 : decode cX2_init 45 = .ok (.putfield 26, 3) := by decide +kernel
theorem dX2_init_48 : decode cX2_init 48 = .ok (.aload_n 0, 1) := by decide +kernel
theorem dX2_init_49 : decode cX2_init 49 = .ok (.iconst 4, 1) := by decide +kernel
theorem dX2_init_50 : decode cX2_init 50 = .ok (.newarray .int, 2) := by decide +kernel
theorem dX2_init_52 : decode cX2_init 52 = .ok (.putfield 29, 3) := by decide +kernel
theorem dX2_init_55 : decode cX2_init 55 = .ok (.aload_n 0, 1) := by decide +kernel
theorem dX2_init_56 : decode cX2_init 56 = .ok (.iconst 4, 1) := by decide +kernel
theorem dX2_init_57 : decode cX2_init 57 = .ok (.newarray .int, 2) := by decide +kernel
theorem dX2_init_59 : decode cX2_init 59 = .ok (.putfield 32, 3) := by decide +kernel
theorem dX2_init_62 : decode cX2_init 62 = .ok (.aload_n 0, 1) := by decide +kernel
theorem dX2_init_63 : decode cX2_init 63 = .ok (.iconst 4, 1) := by decide +kernel
theorem dX2_init_64 : decode cX2_init 64 = .ok (.newarray .int, 2) := by decide +kernel
theorem dX2_init_66 : decode cX2_init 66 = .ok (.putfield 35, 3) := by decide +kernel
theorem dX2_init_69 : decode cX2_init 69 = .ok (.aload_n 0, 1) := by decide +kernel
theorem dX2_init_70 : decode cX2_init 70 = .ok (.iconst 4, 1) := by decide +kernel
theorem dX2_init_71 : decode cX2_init 71 = .ok (.bipush 20, 2) := by decide +kernel
theorem dX2_init_73 : decode cX2_init 73 = .ok (.multianewarray 21 2, 4) := by decide +kernel
theorem dX2_init_77 : decode cX2_init 77 = .ok (.putfield 38, 3) := by decide +kernel
theorem dX2_init_80 : decode cX2_init 80 = .ok (.aload_n 0, 1) := by decide +kernel
theorem dX2_init_81 : decode cX2_init 81 = .ok (.iconst 4, 1) := by decide +kernel
theorem dX2_init_82 : decode cX2_init 82 = .ok (.bipush 20, 2) := by decide +kernel
theorem dX2_init_84 : decode cX2_init 84 = .ok (.multianewarray 21 2, 4) := by decide +kernel
theorem dX2_init_88 : decode cX2_init 88 = .ok (.putfield 41, 3) := by decide +kernel
theorem dX2_init_91 : decode cX2_init 91 = .ok (.return_, 1) := by decide +kernel
theorem dX2_fillFrom_0 : decode cX2_fillFrom 0 = .ok (.aload_n 1, 1) := by decide +kernel
theorem dX2_fillFrom_1 : decode cX2_fillFrom 1 = .ok (.invokevirtual 44, 3) := by decide +kernel
theorem dX2_fillFrom_4 : decode cX2_fillFrom 4 = .ok (.aload_n 0, 1) := by decide +kernel
theorem dX2_fillFrom_5 : decode cX2_fillFrom 5 = .ok (.aload_n 1, 1) := by decide +kernel
theorem dX2_fillFrom_6 : decode cX2_fillFrom 6 = .ok (.iconst 1, 1) := by decide +kernel
theorem dX2_fillFrom_7 : decode cX2_fillFrom 7 = .ok (.bipush 8, 2) := by decide +kernel
theorem dX2_fillFrom_9 : decode cX2_fillFrom 9 = .ok (.invokevirtual 49, 3) := by decide +kernel
theorem dX2_fillFrom_12 : decode cX2_fillFrom 12 = .ok (.putfield 53, 3) := by decide +kernel
theorem dX2_fillFrom_15 : decode cX2_fillFrom 15 = .ok (.iconst 0, 1) := by decide +kernel
theorem dX2_fillFrom_16 : decode cX2_fillFrom 16 = .ok (.istore_n 2, 1) := by decide +kernel
theorem dX2_fillFrom_17 : decode cX2_fillFrom 17 = .ok (.iload_n 2, 1) := by decide +kernel
theorem dX2_fillFrom_18 : decode cX2_fillFrom 18 = .ok (.bipush 8, 2) := by decide +kernel
theorem dX2_fillFrom_20 : decode cX2_fillFrom 20 = .ok (.if_icmp .ge 15, 3) := by decide +kernel
theorem dX2_fillFrom_23 : decode cX2_fillFrom 23 = .ok (.aload_n 0, 1) := by decide +kernel
theorem dX2_fillFrom_24 : decode cX2_fillFrom 24 = .ok (.aload_n 1, 1) := by decide +kernel
theorem dX2_fillFrom_25 : decode cX2_fillFrom 25 = .ok (.iload_n 2, 1) := by decide +kernel
theorem dX2_fillFrom_26 : decode cX2_fillFrom 26 = .ok (.invokevirtual 57, 3) := by decide +kernel
theorem dX2_fillFrom_29 : decode cX2_fillFrom 29 = .ok (.iinc 2 1, 3) := by decide +kernel
theorem dX2_fillFrom_32 : decode cX2_fillFrom 32 = .ok (.goto (-15), 3) := by decide +kernel
theorem dX2_fillFrom_35 : decode cX2_fillFrom 35 = .ok (.aload_n 0, 1) := by decide +kernel
theorem dX2_fillFrom_36 : decode cX2_fillFrom 36 = .ok (.aload_n 1, 1) := by decide +kernel
theorem dX2_fillFrom_37 : decode cX2_fillFrom 37 = .ok (.iconst 0, 1) := by decide +kernel
theorem dX2_fillFrom_38 : decode cX2_fillFrom 38 = .ok (.bipush 20, 2) := by decide +kernel
theorem dX2_fillFrom_40 : decode cX2_fillFrom 40 = .ok (.invokevirtual 49, 3) := by decide +kernel
theorem dX2_fillFrom_43 : decode cX2_fillFrom 43 = .ok (.putfield 61, 3) := by decide +kernel
theorem dX2_fillFrom_46 : decode cX2_fillFrom 46 = .ok (.iconst 0, 1) := by decide +kernel
theorem dX2_fillFrom_47 : decode cX2_fillFrom 47 = .ok (.istore_n 2, 1) := by decide +kernel
theorem dX2_fillFrom_48 : decode cX2_fillFrom 48 = .ok (.iload_n 2, 1) := by decide +kernel
theorem dX2_fillFrom_49 : decode cX2_fillFrom 49 = .ok (.bipush 20, 2) := by decide +kernel
theorem dX2_fillFrom_51 : decode cX2_fillFrom 51 = .ok (.if_icmp .ge 73, 3) := by decide +kernel
theorem dX2_fillFrom_54 : decode cX2_fillFrom 54 = .ok (.iload_n 2, 1) := by decide +kernel
theorem dX2_fillFrom_55 : decode cX2_fillFrom 55 = .ok (.aload_n 0, 1) := by decide +kernel
theorem dX2_fillFrom_56 : decode cX2_fillFrom 56 = .ok (.getfield 61, 3) := by decide +kernel
theorem dX2_fillFrom_59 : decode cX2_fillFrom 59 = .ok (.if_icmp .ge 65, 3) := by decide +kernel
theorem dX2_fillFrom_62 : decode cX2_fillFrom 62 = .ok (.iconst 0, 1) := by decide +kernel
theorem dX2_fillFrom_63 : decode cX2_fillFrom 63 = .ok (.istore_n 3, 1) := by decide +kernel
theorem dX2_fillFrom_64 : decode cX2_fillFrom 64 = .ok (.iload_n 3, 1) := by decide +kernel
theorem dX2_fillFrom_65 : decode cX2_fillFrom 65 = .ok (.bipush 8, 2) := by decide +kernel
theorem dX2_fillFrom_67 : decode cX2_fillFrom 67 = .ok (.if_icmp .ge 37, 3) := by decide +kernel
theorem dX2_fillFrom_70 : decode cX2_fillFrom 70 = .ok (.aload_n 0, 1) := by decide +kernel
theorem dX2_fillFrom_71 : decode cX2_fillFrom 71 = .ok (.getfield 23, 3) := by decide +kernel
theorem dX2_fillFrom_74 : decode cX2_fillFrom 74 = .ok (.iload_n 2, 1) := by decide +kernel
theorem dX2_fillFrom_75 : decode cX2_fillFrom 75 = .ok (.aaload, 1) := by decide +kernel
theorem dX2_fillFrom_76 : decode cX2_fillFrom 76 = .ok (.iload_n 3, 1) := by decide +kernel
theorem dX2_fillFrom_77 : decode cX2_fillFrom 77 = .ok (.iload_n 3, 1) := by decide +kernel
theorem dX2_fillFrom_78 : decode cX2_fillFrom 78 = .ok (.aload_n 0, 1) := by decide +kernel
theorem dX2_fillFrom_79 : decode cX2_fillFrom 79 = .ok (.getfield 53, 3) := by decide +kernel
theorem dX2_fillFrom_82 : decode cX2_fillFrom 82 = .ok (.if_icmp .ge 14, 3) := by decide +kernel
theorem dX2_fillFrom_85 : decode cX2_fillFrom 85 = .ok (.aload_n 1, 1) := by decide +kernel
theorem dX2_fillFrom_86 : decode cX2_fillFrom 86 = .ok (.bipush (-100), 2) := by decide +kernel
theorem dX2_fillFrom_88 : decode cX2_fillFrom 88 = .ok (.bipush 100, 2) := by decide +kernel
theorem dX2_fillFrom_90 : decode cX2_fillFrom 90 = .ok (.invokevirtual 49, 3) := by decide +kernel
theorem dX2_fillFrom_93 : decode cX2_fillFrom 93 = .ok (.goto 4, 3) := by decide +kernel
theorem dX2_fillFrom_96 : decode cX2_fillFrom 96 = .ok (.iconst 0, 1) := by decide +kernel
theorem dX2_fillFrom_97 : decode cX2_fillFrom 97 = .ok (.iastore, 1) := by decide +kernel
theorem dX2_fillFrom_98 : decode cX2_fillFrom 98 = .ok (.iinc 3 1, 3) := by decide +kernel
theorem dX2_fillFrom_101 : decode cX2_fillFrom 101 = .ok (.goto (-37), 3) := by decide +kernel
theorem dX2_fillFrom_104 : decode cX2_fillFrom 104 = .ok (.aload_n 0, 1) := by decide +kernel
theorem dX2_fillFrom_105 : decode cX2_fillFrom 105 = .ok (.getfield 26, 3) := by decide +kernel
theorem dX2_fillFrom_108 : decode cX2_fillFrom 108 = .ok (.iload_n 2, 1) := by decide +kernel
theorem dX2_fillFrom_109 : decode cX2_fillFrom 109 = .ok (.aload_n 1, 1) := by decide +kernel
theorem dX2_fillFrom_110 : decode cX2_fillFrom 110 = .ok (.ldc 64, 2) := by decide +kernel
theorem dX2_fillFrom_112 : decode cX2_fillFrom 112 = .ok (.ldc 65, 2) := by decide +kernel
theorem dX2_fillFrom_114 : decode cX2_fillFrom 114 = .ok (.invokevirtual 49, 3) := by decide +kernel
theorem dX2_fillFrom_117 : decode cX2_fillFrom 117 = .ok (.iastore, 1) := by decide +kernel
theorem dX2_fillFrom_118 : decode cX2_fillFrom 118 = .ok (.iinc 2 1, 3) := by decide +kernel
theorem dX2_fillFrom_121 : decode cX2_fillFrom 121 = .ok (.goto (-73), 3) := by decide +kernel
theorem dX2_fillFrom_124 : decode cX2_fillFrom 124 = .ok (.aload_n 0, 1) := by decide +kernel
theorem dX2_fillFrom_125 : decode cX2_fillFrom 125 = .ok (.aload_n 1, 1) := by decide +kernel
theorem dX2_fillFrom_126 : decode cX2_fillFrom 126 = .ok (.iconst 0, 1) := by decide +kernel
theorem dX2_fillFrom_127 : decode cX2_fillFrom 127 = .ok (.iconst 4, 1) := by decide +kernel
theorem dX2_fillFrom_128 : decode cX2_fillFrom 128 = .ok (.invokevirtual 49, 3) := by decide +kernel
theorem dX2_fillFrom_131 : decode cX2_fillFrom 131 = .ok (.putfield 66, 3) := by decide +kernel
theorem dX2_fillFrom_134 : decode cX2_fillFrom 134 = .ok (.iconst 0, 1) := by decide +kernel
theorem dX2_fillFrom_135 : decode cX2_fillFrom 135 = .ok (.istore_n 2, 1) := by decide +kernel
theorem dX2_fillFrom_136 : decode cX2_fillFrom 136 = .ok (.iload_n 2, 1) := by decide +kernel
theorem dX2_fillFrom_137 : decode cX2_fillFrom 137 = .ok (.iconst 4, 1) := by decide +kernel
theorem dX2_fillFrom_138 : decode cX2_fillFrom 138 = .ok (.if_icmp .ge 23, 3) := by decide +kernel
theorem dX2_fillFrom_141 : decode cX2_fillFrom 141 = .ok (.iload_n 2, 1) := by decide +kernel
theorem dX2_fillFrom_142 : decode cX2_fillFrom 142 = .ok (.aload_n 0, 1) := by decide +kernel
theorem dX2_fillFrom_143 : decode cX2_fillFrom 143 = .ok (.getfield 66, 3) := by decide +kernel
theorem dX2_fillFrom_146 : decode cX2_fillFrom 146 = .ok (.if_icmp .ge 15, 3) := by decide +kernel
theorem dX2_fillFrom_149 : decode cX2_fillFrom 149 = .ok (.aload_n 0, 1) := by decide +kernel
theorem dX2_fillFrom_150 : decode cX2_fillFrom 150 = .ok (.aload_n 1, 1) := by decide +kernel
theorem dX2_fillFrom_151 : decode cX2_fillFrom 151 = .ok (.iload_n 2, 1) := by decide +kernel
theorem dX2_fillFrom_152 : decode cX2_fillFrom 152 = .ok (.invokevirtual 69, 3) := by decide +kernel
theorem dX2_fillFrom_155 : decode cX2_fillFrom 155 = .ok (.iinc 2 1, 3) := by decide +kernel
theorem dX2_fillFrom_158 : decode cX2_fillFrom 158 = .ok (.goto (-22), 3) := by decide +kernel
theorem dX2_fillFrom_161 : decode cX2_fillFrom 161 = .ok (.aload_n 0, 1) := by decide +kernel
theorem dX2_fillFrom_162 : decode cX2_fillFrom 162 = .ok (.aload_n 1, 1) := by decide +kernel
theorem dX2_fillFrom_163 : decode cX2_fillFrom 163 = .ok (.invokevirtual 72, 3) := by decide +kernel
theorem dX2_fillFrom_166 : decode cX2_fillFrom 166 = .ok (.putfield 76, 3) := by decide +kernel
theorem dX2_fillFrom_169 : decode cX2_fillFrom 169 = .ok (.aload_n 1, 1) := by decide +kernel
theorem dX2_fillFrom_170 : decode cX2_fillFrom 170 = .ok (.invokevirtual 79, 3) := by decide +kernel
theorem dX2_fillFrom_173 : decode cX2_fillFrom 173 = .ok (.ireturn, 1) := by decide +kernel
theorem dX2_fillVariable_0 : decode cX2_fillVariable 0 = .ok (.iload_n 2, 1) := by decide +kernel
theorem dX2_fillVariable_1 : decode cX2_fillVariable 1 = .ok (.aload_n 0, 1) := by decide +kernel
theorem dX2_fillVariable_2 : decode cX2_fillVariable 2 = .ok (.getfield 53, 3) := by decide +kernel
theorem dX2_fillVariable_5 : decode cX2_fillVariable 5 = .ok (.if_icmp .ge 7, 3) := by decide +kernel
theorem dX2_fillVariable_8 : decode cX2_fillVariable 8 = .ok (.iconst 1, 1) := by decide +kernel
theorem dX2_fillVariable_9 : decode cX2_fillVariable 9 = .ok (.goto 4, 3) := by decide +kernel
theorem dX2_fillVariable_12 : decode cX2_fillVariable 12 = .ok (.iconst 0, 1) := by decide +kernel
theorem dX2_fillVariable_13 : decode cX2_fillVariable 13 = .ok (.istore_n 3, 1) := by decide +kernel
theorem dX2_fillVariable_14 : decode cX2_fillVariable 14 = .ok (.aload_n 0, 1) := by decide +kernel
theorem dX2_fillVariable_15 : decode cX2_fillVariable 15 = .ok (.getfield 9, 3) := by decide +kernel
theorem dX2_fillVariable_18 : decode cX2_fillVariable 18 = .ok (.iload_n 2, 1) := by decide +kernel
theorem dX2_fillVariable_19 : decode cX2_fillVariable 19 = .ok (.iload_n 3, 1) := by decide +kernel
theorem dX2_fillVariable_20 : decode cX2_fillVariable 20 = .ok (.ifCond .eq 16, 3) := by decide +kernel
theorem dX2_fillVariable_23 : decode cX2_fillVariable 23 = .ok (.aload_n 1, 1) := by decide +kernel
theorem dX2_fillVariable_24 : decode cX2_fillVariable 24 = .ok (.sipush (-1000), 3) := by decide +kernel
theorem dX2_fillVariable_27 : decode cX2_fillVariable 27 = .ok (.sipush 1000, 3) := by decide +kernel
theorem dX2_fillVariable_30 : decode cX2_fillVariable 30 = .ok (.invokevirtual 49, 3) := by decide +kernel
theorem dX2_fillVariable_33 : decode cX2_fillVariable 33 = .ok (.goto 4, 3) := by decide +kernel
theorem dX2_fillVariable_36 : decode cX2_fillVariable 36 = .ok (.iconst 0, 1) := by decide +kernel
theorem dX2_fillVariable_37 : decode cX2_fillVariable 37 = .ok (.iastore, 1) := by decide +kernel
theorem dX2_fillVariable_38 : decode cX2_fillVariable 38 = .ok (.aload_n 0, 1) := by decide +kernel
theorem dX2_fillVariable_39 : decode cX2_fillVariable 39 = .ok (.getfield 15, 3) := by decide +kernel
theorem dX2_fillVariable_42 : decode cX2_fillVariable 42 = .ok (.iload_n 2, 1) := by decide +kernel
theorem dX2_fillVariable_43 : decode cX2_fillVariable 43 = .ok (.iload_n 3, 1) := by decide +kernel
theorem dX2_fillVariable_44 : decode cX2_fillVariable 44 = .ok (.ifCond .eq 19, 3) := by decide +kernel
theorem dX2_fillVariable_47 : decode cX2_fillVariable 47 = .ok (.aload_n 1, 1) := by decide +kernel
theorem dX2_fillVariable_48 : decode cX2_fillVariable 48 = .ok (.aload_n 0, 1) := by decide +kernel
theorem dX2_fillVariable_49 : decode cX2_fillVariable 49 = .ok (.getfield 9, 3) := by decide +kernel
theorem dX2_fillVariable_52 : decode cX2_fillVariable 52 = .ok (.iload_n 2, 1) := by decide +kernel
theorem dX2_fillVariable_53 : decode cX2_fillVariable 53 = .ok (.iaload, 1) := by decide +kernel
theorem dX2_fillVariable_54 : decode cX2_fillVariable 54 = .ok (.sipush 1000, 3) := by decide +kernel
theorem dX2_fillVariable_57 : decode cX2_fillVariable 57 = .ok (.invokevirtual 49, 3) := by decide +kernel
theorem dX2_fillVariable_60 : decode cX2_fillVariable 60 = .ok (.goto 4, 3) := by decide +kernel
theorem dX2_fillVariable_63 : decode cX2_fillVariable 63 = .ok (.iconst 0, 1) := by decide +kernel
theorem dX2_fillVariable_64 : decode cX2_fillVariable 64 = .ok (.iastore, 1) := by decide +kernel
theorem dX2_fillVariable_65 : decode cX2_fillVariable 65 = .ok (.aload_n 0, 1) := by decide +kernel
theorem dX2_fillVariable_66 : decode cX2_fillVariable 66 = .ok (.getfield 18, 3) := by decide +kernel
theorem dX2_fillVariable_69 : decode cX2_fillVariable 69 = .ok (.iload_n 2, 1) := by decide +kernel
theorem dX2_fillVariable_70 : decode cX2_fillVariable 70 = .ok (.iload_n 3, 1) := by decide +kernel
theorem dX2_fillVariable_71 : decode cX2_fillVariable 71 = .ok (.ifCond .eq 14, 3) := by decide +kernel
theorem dX2_fillVariable_74 : decode cX2_fillVariable 74 = .ok (.aload_n 1, 1) := by decide +kernel
theorem dX2_fillVariable_75 : decode cX2_fillVariable 75 = .ok (.bipush (-100), 2) := by decide +kernel
theorem dX2_fillVariable_77 : decode cX2_fillVariable 77 = .ok (.bipush 100, 2) := by decide +kernel
theorem dX2_fillVariable_79 : decode cX2_fillVariable 79 = .ok (.invokevirtual 49, 3) := by decide +kernel
theorem dX2_fillVariable_82 : decode cX2_fillVariable 82 = .ok (.goto 4, 3) := by decide +kernel
theorem dX2_fillVariable_85 : decode cX2_fillVariable 85 = .ok (.iconst 0, 1) := by decide +kernel
theorem dX2_fillVariable_86 : decode cX2_fillVariable 86 = .ok (.iastore, 1) := by decide +kernel
theorem dX2_fillVariable_87 : decode cX2_fillVariable 87 = .ok (.return_, 1) := by decide +kernel
theorem dX2_fillTable_0 : decode cX2_fillTable 0 = .ok (.aload_n 0, 1) := by decide +kernel
theorem dX2_fillTable_1 : decode cX2_fillTable 1 = .ok (.getfield 29, 3) := by decide +kernel
theorem dX2_fillTable_4 : decode cX2_fillTable 4 = .ok (.iload_n 2, 1) := by decide +kernel
theorem dX2_fillTable_5 : decode cX2_fillTable 5 = .ok (.aload_n 1, 1) := by decide +kernel
theorem dX2_fillTable_6 : decode cX2_fillTable 6 = .ok (.iconst 0, 1) := by decide +kernel
theorem dX2_fillTable_7 : decode cX2_fillTable 7 = .ok (.aload_n 0, 1) := by decide +kernel
theorem dX2_fillTable_8 : decode cX2_fillTable 8 = .ok (.getfield 53, 3) := by decide +kernel
theorem dX2_fillTable_11 : decode cX2_fillTable 11 = .ok (.iconst 1, 1) := by decide +kernel
theorem dX2_fillTable_12 : decode cX2_fillTable 12 = .ok (.isub, 1) := by decide +kernel
theorem dX2_fillTable_13 : decode cX2_fillTable 13 = .ok (.invokevirtual 49, 3) := by decide +kernel
theorem dX2_fillTable_16 : decode cX2_fillTable 16 = .ok (.iastore, 1) := by decide +kernel
theorem dX2_fillTable_17 : decode cX2_fillTable 17 = .ok (.aload_n 0, 1) := by decide +kernel
theorem dX2_fillTable_18 : decode cX2_fillTable 18 = .ok (.getfield 32, 3) := by decide +kernel
theorem dX2_fillTable_21 : decode cX2_fillTable 21 = .ok (.iload_n 2, 1) := by decide +kernel
theorem dX2_fillTable_22 : decode cX2_fillTable 22 = .ok (.aload_n 1, 1) := by decide +kernel
theorem dX2_fillTable_23 : decode cX2_fillTable 23 = .ok (.aload_n 0, 1) := by decide +kernel
theorem dX2_fillTable_24 : decode cX2_fillTable 24 = .ok (.getfield 29, 3) := by decide +kernel
theorem dX2_fillTable_27 : decode cX2_fillTable 27 = .ok (.iload_n 2, 1) := by decide +kernel
theorem dX2_fillTable_28 : decode cX2_fillTable 28 = .ok (.iaload, 1) := by decide +kernel
theorem dX2_fillTable_29 : decode cX2_fillTable 29 = .ok (.iconst 0, 1) := by decide +kernel
theorem dX2_fillTable_30 : decode cX2_fillTable 30 = .ok (.aload_n 0, 1) := by decide +kernel
theorem dX2_fillTable_31 : decode cX2_fillTable 31 = .ok (.getfield 53, 3) := by decide +kernel
theorem dX2_fillTable_34 : decode cX2_fillTable 34 = .ok (.iconst 1, 1) := by decide +kernel
theorem dX2_fillTable_35 : decode cX2_fillTable 35 = .ok (.isub, 1) := by decide +kernel
theorem dX2_fillTable_36 : decode cX2_fillTable 36 = .ok (.invokevirtual 83, 3) := by decide +kernel
theorem dX2_fillTable_39 : decode cX2_fillTable 39 = .ok (.iastore, 1) := by decide +kernel
theorem dX2_fillTable_40 : decode cX2_fillTable 40 = .ok (.aload_n 0, 1) := by decide +kernel
theorem dX2_fillTable_41 : decode cX2_fillTable 41 = .ok (.getfield 35, 3) := by decide +kernel
theorem dX2_fillTable_44 : decode cX2_fillTable 44 = .ok (.iload_n 2, 1) := by decide +kernel
theorem dX2_fillTable_45 : decode cX2_fillTable 45 = .ok (.aload_n 1, 1) := by decide +kernel
theorem dX2_fillTable_46 : decode cX2_fillTable 46 = .ok (.iconst 1, 1) := by decide +kernel
theorem dX2_fillTable_47 : decode cX2_fillTable 47 = .ok (.bipush 20, 2) := by decide +kernel
theorem dX2_fillTable_49 : decode cX2_fillTable 49 = .ok (.invokevirtual 49, 3) := by decide +kernel
theorem dX2_fillTable_52 : decode cX2_fillTable 52 = .ok (.iastore, 1) := by decide +kernel
theorem dX2_fillTable_53 : decode cX2_fillTable 53 = .ok (.iconst 0, 1) := by decide +kernel
theorem dX2_fillTable_54 : decode cX2_fillTable 54 = .ok (.istore_n 3, 1) := by decide +kernel
theorem dX2_fillTable_55 : decode cX2_fillTable 55 = .ok (.iload_n 3, 1) := by decide +kernel
theorem dX2_fillTable_56 : decode cX2_fillTable 56 = .ok (.bipush 20, 2) := by decide +kernel
theorem dX2_fillTable_58 : decode cX2_fillTable 58 = .ok (.if_icmp .ge 55, 3) := by decide +kernel
theorem dX2_fillTable_61 : decode cX2_fillTable 61 = .ok (.iload_n 3, 1) := by decide +kernel
theorem dX2_fillTable_62 : decode cX2_fillTable 62 = .ok (.aload_n 0, 1) := by decide +kernel
theorem dX2_fillTable_63 : decode cX2_fillTable 63 = .ok (.getfield 35, 3) := by decide +kernel
theorem dX2_fillTable_66 : decode cX2_fillTable 66 = .ok (.iload_n 2, 1) := by decide +kernel
theorem dX2_fillTable_67 : decode cX2_fillTable 67 = .ok (.iaload, 1) := by decide +kernel
theorem dX2_fillTable_68 : decode cX2_fillTable 68 = .ok (.if_icmp .ge 45, 3) := by decide +kernel
theorem dX2_fillTable_71 : decode cX2_fillTable 71 = .ok (.aload_n 0, 1) := by decide +kernel
theorem dX2_fillTable_72 : decode cX2_fillTable 72 = .ok (.getfield 38, 3) := by decide +kernel
theorem dX2_fillTable_75 : decode cX2_fillTable 75 = .ok (.iload_n 2, 1) := by decide +kernel
theorem dX2_fillTable_76 : decode cX2_fillTable 76 = .ok (.aaload, 1) := by decide +kernel
theorem dX2_fillTable_77 : decode cX2_fillTable 77 = .ok (.iload_n 3, 1) := by decide +kernel
theorem dX2_fillTable_78 : decode cX2_fillTable 78 = .ok (.aload_n 1, 1) := by decide +kernel
theorem dX2_fillTable_79 : decode cX2_fillTable 79 = .ok (.sipush (-1000), 3) := by decide +kernel
theorem dX2_fillTable_82 : decode cX2_fillTable 82 = .ok (.sipush 1000, 3) := by decide +kernel
theorem dX2_fillTable_85 : decode cX2_fillTable 85 = .ok (.invokevirtual 49, 3) := by decide +kernel
theorem dX2_fillTable_88 : decode cX2_fillTable 88 = .ok (.iastore, 1) := by decide +kernel
theorem dX2_fillTable_89 : decode cX2_fillTable 89 = .ok (.aload_n 0, 1) := by decide +kernel
theorem dX2_fillTable_90 : decode cX2_fillTable 90 = .ok (.getfield 41, 3) := by decide +kernel
theorem dX2_fillTable_93 : decode cX2_fillTable 93 = .ok (.iload_n 2, 1) := by decide +kernel
theorem dX2_fillTable_94 : decode cX2_fillTable 94 = .ok (.aaload, 1) := by decide +kernel
theorem dX2_fillTable_95 : decode cX2_fillTable 95 = .ok (.iload_n 3, 1) := by decide +kernel
theorem dX2_fillTable_96 : decode cX2_fillTable 96 = .ok (.aload_n 1, 1) := by decide +kernel
theorem dX2_fillTable_97 : decode cX2_fillTable 97 = .ok (.sipush (-1000), 3) := by decide +kernel
theorem dX2_fillTable_100 : decode cX2_fillTable 100 = .ok (.sipush 1000, 3) := by decide +kernel
theorem dX2_fillTable_103 : decode cX2_fillTable 103 = .ok (.invokevirtual 49, 3) := by decide +kernel
theorem dX2_fillTable_106 : decode cX2_fillTable 106 = .ok (.iastore, 1) := by decide +kernel
theorem dX2_fillTable_107 : decode cX2_fillTable 107 = .ok (.iinc 3 1, 3) := by decide +kernel
theorem dX2_fillTable_110 : decode cX2_fillTable 110 = .ok (.goto (-55), 3) := by decide +kernel
theorem dX2_fillTable_113 : decode cX2_fillTable 113 = .ok (.return_, 1) := by decide +kernel
theorem dX2_hasVariable_0 : decode cX2_hasVariable 0 = .ok (.iload_n 1, 1) := by decide +kernel
theorem dX2_hasVariable_1 : decode cX2_hasVariable 1 = .ok (.ifCond .lt 21, 3) := by decide +kernel
theorem dX2_hasVariable_4 : decode cX2_hasVariable 4 = .ok (.iload_n 1, 1) := by decide +kernel
theorem dX2_hasVariable_5 : decode cX2_hasVariable 5 = .ok (.aload_n 0, 1) := by decide +kernel
theorem dX2_hasVariable_6 : decode cX2_hasVariable 6 = .ok (.getfield 53, 3) := by decide +kernel
theorem dX2_hasVariable_9 : decode cX2_hasVariable 9 = .ok (.if_icmp .ge 13, 3) := by decide +kernel
theorem dX2_hasVariable_12 : decode cX2_hasVariable 12 = .ok (.iload_n 1, 1) := by decide +kernel
theorem dX2_hasVariable_13 : decode cX2_hasVariable 13 = .ok (.bipush 8, 2) := by decide +kernel
theorem dX2_hasVariable_15 : decode cX2_hasVariable 15 = .ok (.if_icmp .ge 7, 3) := by decide +kernel
theorem dX2_hasVariable_18 : decode cX2_hasVariable 18 = .ok (.iconst 1, 1) := by decide +kernel
theorem dX2_hasVariable_19 : decode cX2_hasVariable 19 = .ok (.goto 4, 3) := by decide +kernel
theorem dX2_hasVariable_22 : decode cX2_hasVariable 22 = .ok (.iconst 0, 1) := by decide +kernel
theorem dX2_hasVariable_23 : decode cX2_hasVariable 23 = .ok (.ireturn, 1) := by decide +kernel
theorem dX2_hasRule_0 : decode cX2_hasRule 0 = .ok (.iload_n 1, 1) := by decide +kernel
theorem dX2_hasRule_1 : decode cX2_hasRule 1 = .ok (.ifCond .lt 21, 3) := by decide +kernel
theorem dX2_hasRule_4 : decode cX2_hasRule 4 = .ok (.iload_n 1, 1) := by decide +kernel
theorem dX2_hasRule_5 : decode cX2_hasRule 5 = .ok (.aload_n 0, 1) := by decide +kernel
theorem dX2_hasRule_6 : decode cX2_hasRule 6 = .ok (.getfield 61, 3) := by decide +kernel
theorem dX2_hasRule_9 : decode cX2_hasRule 9 = .ok (.if_icmp .ge 13, 3) := by decide +kernel
theorem dX2_hasRule_12 : decode cX2_hasRule 12 = .ok (.iload_n 1, 1) := by decide +kernel
theorem dX2_hasRule_13 : decode cX2_hasRule 13 = .ok (.bipush 20, 2) := by decide +kernel
theorem dX2_hasRule_15 : decode cX2_hasRule 15 = .ok (.if_icmp .ge 7, 3) := by decide +kernel
theorem dX2_hasRule_18 : decode cX2_hasRule 18 = .ok (.iconst 1, 1) := by decide +kernel
theorem dX2_hasRule_19 : decode cX2_hasRule 19 = .ok (.goto 4, 3) := by decide +kernel
theorem dX2_hasRule_22 : decode cX2_hasRule 22 = .ok (.iconst 0, 1) := by decide +kernel
theorem dX2_hasRule_23 : decode cX2_hasRule 23 = .ok (.ireturn, 1) := by decide +kernel
theorem dX2_hasTable_0 : decode cX2_hasTable 0 = .ok (.iload_n 1, 1) := by decide +kernel
theorem dX2_hasTable_1 : decode cX2_hasTable 1 = .ok (.ifCond .lt 20, 3) := by decide +kernel
theorem dX2_hasTable_4 : decode cX2_hasTable 4 = .ok (.iload_n 1, 1) := by decide +kernel
theorem dX2_hasTable_5 : decode cX2_hasTable 5 = .ok (.aload_n 0, 1) := by decide +kernel
theorem dX2_hasTable_6 : decode cX2_hasTable 6 = .ok (.getfield 66, 3) := by decide +kernel
theorem dX2_hasTable_9 : decode cX2_hasTable 9 = .ok (.if_icmp .ge 12, 3) := by decide +kernel
theorem dX2_hasTable_12 : decode cX2_hasTable 12 = .ok (.iload_n 1, 1) := by decide +kernel
theorem dX2_hasTable_13 : decode cX2_hasTable 13 = .ok (.iconst 4, 1) := by decide +kernel
theorem dX2_hasTable_14 : decode cX2_hasTable 14 = .ok (.if_icmp .ge 7, 3) := by decide +kernel
theorem dX2_hasTable_17 : decode cX2_hasTable 17 = .ok (.iconst 1, 1) := by decide +kernel
theorem dX2_hasTable_18 : decode cX2_hasTable 18 = .ok (.goto 4, 3) := by decide +kernel
theorem dX2_hasTable_21 : decode cX2_hasTable 21 = .ok (.iconst 0, 1) := by decide +kernel
theorem dX2_hasTable_22 : decode cX2_hasTable 22 = .ok (.ireturn, 1) := by decide +kernel
theorem dX2_lowOf_0 : decode cX2_lowOf 0 = .ok (.aload_n 0, 1) := by decide +kernel
theorem dX2_lowOf_1 : decode cX2_lowOf 1 = .ok (.iload_n 1, 1) := by decide +kernel
theorem dX2_lowOf_2 : decode cX2_lowOf 2 = .ok (.invokevirtual 87, 3) := by decide +kernel
theorem dX2_lowOf_5 : decode cX2_lowOf 5 = .ok (.ifCond .eq 12, 3) := by decide +kernel
theorem dX2_lowOf_8 : decode cX2_lowOf 8 = .ok (.aload_n 0, 1) := by decide +kernel
theorem dX2_lowOf_9 : decode cX2_lowOf 9 = .ok (.getfield 9, 3) := by decide +kernel
theorem dX2_lowOf_12 : decode cX2_lowOf 12 = .ok (.iload_n 1, 1) := by decide +kernel
theorem dX2_lowOf_13 : decode cX2_lowOf 13 = .ok (.iaload, 1) := by decide +kernel
theorem dX2_lowOf_14 : decode cX2_lowOf 14 = .ok (.goto 4, 3) := by decide +kernel
theorem dX2_lowOf_17 : decode cX2_lowOf 17 = .ok (.iconst 0, 1) := by decide +kernel
theorem dX2_lowOf_18 : decode cX2_lowOf 18 = .ok (.ireturn, 1) := by decide +kernel
theorem dX2_highOf_0 : decode cX2_highOf 0 = .ok (.aload_n 0, 1) := by decide +kernel
theorem dX2_highOf_1 : decode cX2_highOf 1 = .ok (.iload_n 1, 1) := by decide +kernel
theorem dX2_highOf_2 : decode cX2_highOf 2 = .ok (.invokevirtual 87, 3) := by decide +kernel
theorem dX2_highOf_5 : decode cX2_highOf 5 = .ok (.ifCond .eq 12, 3) := by decide +kernel
theorem dX2_highOf_8 : decode cX2_highOf 8 = .ok (.aload_n 0, 1) := by decide +kernel
theorem dX2_highOf_9 : decode cX2_highOf 9 = .ok (.getfield 15, 3) := by decide +kernel
theorem dX2_highOf_12 : decode cX2_highOf 12 = .ok (.iload_n 1, 1) := by decide +kernel
theorem dX2_highOf_13 : decode cX2_highOf 13 = .ok (.iaload, 1) := by decide +kernel
theorem dX2_highOf_14 : decode cX2_highOf 14 = .ok (.goto 4, 3) := by decide +kernel
theorem dX2_highOf_17 : decode cX2_highOf 17 = .ok (.iconst 0, 1) := by decide +kernel
theorem dX2_highOf_18 : decode cX2_highOf 18 = .ok (.ireturn, 1) := by decide +kernel
theorem dX2_costOf_0 : decode cX2_costOf 0 = .ok (.aload_n 0, 1) := by decide +kernel
theorem dX2_costOf_1 : decode cX2_costOf 1 = .ok (.getfield 18, 3) := by decide +kernel
theorem dX2_costOf_4 : decode cX2_costOf 4 = .ok (.aload_n 1, 1) := by decide +kernel
theorem dX2_costOf_5 : decode cX2_costOf 5 = .ok (.invokestatic 91, 3) := by decide +kernel
theorem dX2_costOf_8 : decode cX2_costOf 8 = .ok (.lreturn, 1) := by decide +kernel
theorem dX2_firstBroken_0 : decode cX2_firstBroken 0 = .ok (.iconst 0, 1) := by decide +kernel
theorem dX2_firstBroken_1 : decode cX2_firstBroken 1 = .ok (.istore_n 2, 1) := by decide +kernel
theorem dX2_firstBroken_2 : decode cX2_firstBroken 2 = .ok (.iload_n 2, 1) := by decide +kernel
theorem dX2_firstBroken_3 : decode cX2_firstBroken 3 = .ok (.bipush 8, 2) := by decide +kernel
theorem dX2_firstBroken_5 : decode cX2_firstBroken 5 = .ok (.if_icmp .ge 34, 3) := by decide +kernel
theorem dX2_firstBroken_8 : decode cX2_firstBroken 8 = .ok (.aload_n 1, 1) := by decide +kernel
theorem dX2_firstBroken_9 : decode cX2_firstBroken 9 = .ok (.iload_n 2, 1) := by decide +kernel
theorem dX2_firstBroken_10 : decode cX2_firstBroken 10 = .ok (.invokestatic 97, 3) := by decide +kernel
theorem dX2_firstBroken_13 : decode cX2_firstBroken 13 = .ok (.aload_n 0, 1) := by decide +kernel
theorem dX2_firstBroken_14 : decode cX2_firstBroken 14 = .ok (.getfield 9, 3) := by decide +kernel
theorem dX2_firstBroken_17 : decode cX2_firstBroken 17 = .ok (.iload_n 2, 1) := by decide +kernel
theorem dX2_firstBroken_18 : decode cX2_firstBroken 18 = .ok (.iaload, 1) := by decide +kernel
theorem dX2_firstBroken_19 : decode cX2_firstBroken 19 = .ok (.aload_n 0, 1) := by decide +kernel
theorem dX2_firstBroken_20 : decode cX2_firstBroken 20 = .ok (.getfield 15, 3) := by decide +kernel
theorem dX2_firstBroken_23 : decode cX2_firstBroken 23 = .ok (.iload_n 2, 1) := by decide +kernel
theorem dX2_firstBroken_24 : decode cX2_firstBroken 24 = .ok (.iaload, 1) := by decide +kernel
theorem dX2_firstBroken_25 : decode cX2_firstBroken 25 = .ok (.invokestatic 101, 3) := by decide +kernel
theorem dX2_firstBroken_28 : decode cX2_firstBroken 28 = .ok (.ifCond .ne 5, 3) := by decide +kernel
theorem dX2_firstBroken_31 : decode cX2_firstBroken 31 = .ok (.iload_n 2, 1) := by decide +kernel
theorem dX2_firstBroken_32 : decode cX2_firstBroken 32 = .ok (.ireturn, 1) := by decide +kernel
theorem dX2_firstBroken_33 : decode cX2_firstBroken 33 = .ok (.iinc 2 1, 3) := by decide +kernel
theorem dX2_firstBroken_36 : decode cX2_firstBroken 36 = .ok (.goto (-34), 3) := by decide +kernel
theorem dX2_firstBroken_39 : decode cX2_firstBroken 39 = .ok (.iconst 0, 1) := by decide +kernel
theorem dX2_firstBroken_40 : decode cX2_firstBroken 40 = .ok (.istore_n 2, 1) := by decide +kernel
theorem dX2_firstBroken_41 : decode cX2_firstBroken 41 = .ok (.iload_n 2, 1) := by decide +kernel
theorem dX2_firstBroken_42 : decode cX2_firstBroken 42 = .ok (.bipush 20, 2) := by decide +kernel
theorem dX2_firstBroken_44 : decode cX2_firstBroken 44 = .ok (.if_icmp .ge 43, 3) := by decide +kernel
theorem dX2_firstBroken_47 : decode cX2_firstBroken 47 = .ok (.iload_n 2, 1) := by decide +kernel
theorem dX2_firstBroken_48 : decode cX2_firstBroken 48 = .ok (.aload_n 0, 1) := by decide +kernel
theorem dX2_firstBroken_49 : decode cX2_firstBroken 49 = .ok (.getfield 61, 3) := by decide +kernel
theorem dX2_firstBroken_52 : decode cX2_firstBroken 52 = .ok (.if_icmp .ge 35, 3) := by decide +kernel
theorem dX2_firstBroken_55 : decode cX2_firstBroken 55 = .ok (.aload_n 0, 1) := by decide +kernel
theorem dX2_firstBroken_56 : decode cX2_firstBroken 56 = .ok (.getfield 23, 3) := by decide +kernel
theorem dX2_firstBroken_59 : decode cX2_firstBroken 59 = .ok (.iload_n 2, 1) := by decide +kernel
theorem dX2_firstBroken_60 : decode cX2_firstBroken 60 = .ok (.aaload, 1) := by decide +kernel
theorem dX2_firstBroken_61 : decode cX2_firstBroken 61 = .ok (.aload_n 1, 1) := by decide +kernel
theorem dX2_firstBroken_62 : decode cX2_firstBroken 62 = .ok (.invokestatic 91, 3) := by decide +kernel
theorem dX2_firstBroken_65 : decode cX2_firstBroken 65 = .ok (.aload_n 0, 1) := by decide +kernel
theorem dX2_firstBroken_66 : decode cX2_firstBroken 66 = .ok (.getfield 26, 3) := by decide +kernel
theorem dX2_firstBroken_69 : decode cX2_firstBroken 69 = .ok (.iload_n 2, 1) := by decide +kernel
theorem dX2_firstBroken_70 : decode cX2_firstBroken 70 = .ok (.iaload, 1) := by decide +kernel
theorem dX2_firstBroken_71 : decode cX2_firstBroken 71 = .ok (.i2l, 1) := by decide +kernel
theorem dX2_firstBroken_72 : decode cX2_firstBroken 72 = .ok (.lcmp, 1) := by decide +kernel
theorem dX2_firstBroken_73 : decode cX2_firstBroken 73 = .ok (.ifCond .le 8, 3) := by decide +kernel
theorem dX2_firstBroken_76 : decode cX2_firstBroken 76 = .ok (.bipush 100, 2) := by decide +kernel
theorem dX2_firstBroken_78 : decode cX2_firstBroken 78 = .ok (.iload_n 2, 1) := by decide +kernel
theorem dX2_firstBroken_79 : decode cX2_firstBroken 79 = .ok (.iadd, 1) := by decide +kernel
theorem dX2_firstBroken_80 : decode cX2_firstBroken 80 = .ok (.ireturn, 1) := by decide +kernel
theorem dX2_firstBroken_81 : decode cX2_firstBroken 81 = .ok (.iinc 2 1, 3) := by decide +kernel
theorem dX2_firstBroken_84 : decode cX2_firstBroken 84 = .ok (.goto (-43), 3) := by decide +kernel
theorem dX2_firstBroken_87 : decode cX2_firstBroken 87 = .ok (.iconst 0, 1) := by decide +kernel
theorem dX2_firstBroken_88 : decode cX2_firstBroken 88 = .ok (.istore_n 2, 1) := by decide +kernel
theorem dX2_firstBroken_89 : decode cX2_firstBroken 89 = .ok (.iload_n 2, 1) := by decide +kernel
theorem dX2_firstBroken_90 : decode cX2_firstBroken 90 = .ok (.iconst 4, 1) := by decide +kernel
theorem dX2_firstBroken_91 : decode cX2_firstBroken 91 = .ok (.if_icmp .ge 51, 3) := by decide +kernel
theorem dX2_firstBroken_94 : decode cX2_firstBroken 94 = .ok (.iload_n 2, 1) := by decide +kernel
theorem dX2_firstBroken_95 : decode cX2_firstBroken 95 = .ok (.aload_n 0, 1) := by decide +kernel
theorem dX2_firstBroken_96 : decode cX2_firstBroken 96 = .ok (.getfield 66, 3) := by decide +kernel
theorem dX2_firstBroken_99 : decode cX2_firstBroken 99 = .ok (.if_icmp .ge 43, 3) := by decide +kernel
theorem dX2_firstBroken_102 : decode cX2_firstBroken 102 = .ok (.aload_n 0, 1) := by decide +kernel
theorem dX2_firstBroken_103 : decode cX2_firstBroken 103 = .ok (.iload_n 2, 1) := by decide +kernel
theorem dX2_firstBroken_104 : decode cX2_firstBroken 104 = .ok (.aload_n 1, 1) := by decide +kernel
theorem dX2_firstBroken_105 : decode cX2_firstBroken 105 = .ok (.aload_n 0, 1) := by decide +kernel
theorem dX2_firstBroken_106 : decode cX2_firstBroken 106 = .ok (.getfield 29, 3) := by decide +kernel
theorem dX2_firstBroken_109 : decode cX2_firstBroken 109 = .ok (.iload_n 2, 1) := by decide +kernel
theorem dX2_firstBroken_110 : decode cX2_firstBroken 110 = .ok (.iaload, 1) := by decide +kernel
theorem dX2_firstBroken_111 : decode cX2_firstBroken 111 = .ok (.invokestatic 97, 3) := by decide +kernel
theorem dX2_firstBroken_114 : decode cX2_firstBroken 114 = .ok (.aload_n 1, 1) := by decide +kernel
theorem dX2_firstBroken_115 : decode cX2_firstBroken 115 = .ok (.aload_n 0, 1) := by decide +kernel
theorem dX2_firstBroken_116 : decode cX2_firstBroken 116 = .ok (.getfield 32, 3) := by decide +kernel
theorem dX2_firstBroken_119 : decode cX2_firstBroken 119 = .ok (.iload_n 2, 1) := by decide +kernel
theorem dX2_firstBroken_120 : decode cX2_firstBroken 120 = .ok (.iaload, 1) := by decide +kernel
theorem dX2_firstBroken_121 : decode cX2_firstBroken 121 = .ok (.invokestatic 97, 3) := by decide +kernel
theorem dX2_firstBroken_124 : decode cX2_firstBroken 124 = .ok (.invokevirtual 105, 3) := by decide +kernel
theorem dX2_firstBroken_127 : decode cX2_firstBroken 127 = .ok (.ifCond .ne 9, 3) := by decide +kernel
theorem dX2_firstBroken_130 : decode cX2_firstBroken 130 = .ok (.sipush 200, 3) := by decide +kernel
theorem dX2_firstBroken_133 : decode cX2_firstBroken 133 = .ok (.iload_n 2, 1) := by decide +kernel
theorem dX2_firstBroken_134 : decode cX2_firstBroken 134 = .ok (.iadd, 1) := by decide +kernel
theorem dX2_firstBroken_135 : decode cX2_firstBroken 135 = .ok (.ireturn, 1) := by decide +kernel
theorem dX2_firstBroken_136 : decode cX2_firstBroken 136 = .ok (.iinc 2 1, 3) := by decide +kernel
theorem dX2_firstBroken_139 : decode cX2_firstBroken 139 = .ok (.goto (-50), 3) := by decide +kernel
theorem dX2_firstBroken_142 : decode cX2_firstBroken 142 = .ok (.iconst (-1), 1) := by decide +kernel
theorem dX2_firstBroken_143 : decode cX2_firstBroken 143 = .ok (.ireturn, 1) := by decide +kernel
theorem dX2_hasPair_0 : decode cX2_hasPair 0 = .ok (.iconst 0, 1) := by decide +kernel
theorem dX2_hasPair_1 : decode cX2_hasPair 1 = .ok (.istore 4, 2) := by decide +kernel
theorem dX2_hasPair_3 : decode cX2_hasPair 3 = .ok (.iload 4, 2) := by decide +kernel
theorem dX2_hasPair_5 : decode cX2_hasPair 5 = .ok (.bipush 20, 2) := by decide +kernel
theorem dX2_hasPair_7 : decode cX2_hasPair 7 = .ok (.if_icmp .ge 48, 3) := by decide +kernel
theorem dX2_hasPair_10 : decode cX2_hasPair 10 = .ok (.iload 4, 2) := by decide +kernel
theorem dX2_hasPair_12 : decode cX2_hasPair 12 = .ok (.aload_n 0, 1) := by decide +kernel
theorem dX2_hasPair_13 : decode cX2_hasPair 13 = .ok (.getfield 35, 3) := by decide +kernel
theorem dX2_hasPair_16 : decode cX2_hasPair 16 = .ok (.iload_n 1, 1) := by decide +kernel
theorem dX2_hasPair_17 : decode cX2_hasPair 17 = .ok (.iaload, 1) := by decide +kernel
theorem dX2_hasPair_18 : decode cX2_hasPair 18 = .ok (.if_icmp .ge 37, 3) := by decide +kernel
theorem dX2_hasPair_21 : decode cX2_hasPair 21 = .ok (.aload_n 0, 1) := by decide +kernel
theorem dX2_hasPair_22 : decode cX2_hasPair 22 = .ok (.getfield 38, 3) := by decide +kernel
theorem dX2_hasPair_25 : decode cX2_hasPair 25 = .ok (.iload_n 1, 1) := by decide +kernel
theorem dX2_hasPair_26 : decode cX2_hasPair 26 = .ok (.aaload, 1) := by decide +kernel
theorem dX2_hasPair_27 : decode cX2_hasPair 27 = .ok (.iload 4, 2) := by decide +kernel
theorem dX2_hasPair_29 : decode cX2_hasPair 29 = .ok (.iaload, 1) := by decide +kernel
theorem dX2_hasPair_30 : decode cX2_hasPair 30 = .ok (.iload_n 2, 1) := by decide +kernel
theorem dX2_hasPair_31 : decode cX2_hasPair 31 = .ok (.if_icmp .ne 18, 3) := by decide +kernel
theorem dX2_hasPair_34 : decode cX2_hasPair 34 = .ok (.aload_n 0, 1) := by decide +kernel
theorem dX2_hasPair_35 : decode cX2_hasPair 35 = .ok (.getfield 41, 3) := by decide +kernel
theorem dX2_hasPair_38 : decode cX2_hasPair 38 = .ok (.iload_n 1, 1) := by decide +kernel
theorem dX2_hasPair_39 : decode cX2_hasPair 39 = .ok (.aaload, 1) := by decide +kernel
theorem dX2_hasPair_40 : decode cX2_hasPair 40 = .ok (.iload 4, 2) := by decide +kernel
theorem dX2_hasPair_42 : decode cX2_hasPair 42 = .ok (.iaload, 1) := by decide +kernel
theorem dX2_hasPair_43 : decode cX2_hasPair 43 = .ok (.iload_n 3, 1) := by decide +kernel
theorem dX2_hasPair_44 : decode cX2_hasPair 44 = .ok (.if_icmp .ne 5, 3) := by decide +kernel
theorem dX2_hasPair_47 : decode cX2_hasPair 47 = .ok (.iconst 1, 1) := by decide +kernel
theorem dX2_hasPair_48 : decode cX2_hasPair 48 = .ok (.ireturn, 1) := by decide +kernel
theorem dX2_hasPair_49 : decode cX2_hasPair 49 = .ok (.iinc 4 1, 3) := by decide +kernel
theorem dX2_hasPair_52 : decode cX2_hasPair 52 = .ok (.goto (-49), 3) := by decide +kernel
theorem dX2_hasPair_55 : decode cX2_hasPair 55 = .ok (.iconst 0, 1) := by decide +kernel
theorem dX2_hasPair_56 : decode cX2_hasPair 56 = .ok (.ireturn, 1) := by decide +kernel
theorem dX2_copyRule_0 : decode cX2_copyRule 0 = .ok (.aload_n 0, 1) := by decide +kernel
theorem dX2_copyRule_1 : decode cX2_copyRule 1 = .ok (.iload_n 1, 1) := by decide +kernel
theorem dX2_copyRule_2 : decode cX2_copyRule 2 = .ok (.invokevirtual 108, 3) := by decide +kernel
theorem dX2_copyRule_5 : decode cX2_copyRule 5 = .ok (.ifCond .ne 4, 3) := by decide +kernel
theorem dX2_copyRule_8 : decode cX2_copyRule 8 = .ok (.return_, 1) := by decide +kernel
theorem dX2_copyRule_9 : decode cX2_copyRule 9 = .ok (.iconst 0, 1) := by decide +kernel
theorem dX2_copyRule_10 : decode cX2_copyRule 10 = .ok (.istore_n 3, 1) := by decide +kernel
theorem dX2_copyRule_11 : decode cX2_copyRule 11 = .ok (.iload_n 3, 1) := by decide +kernel
theorem dX2_copyRule_12 : decode cX2_copyRule 12 = .ok (.bipush 8, 2) := by decide +kernel
theorem dX2_copyRule_14 : decode cX2_copyRule 14 = .ok (.if_icmp .ge 23, 3) := by decide +kernel
theorem dX2_copyRule_17 : decode cX2_copyRule 17 = .ok (.aload_n 2, 1) := by decide +kernel
theorem dX2_copyRule_18 : decode cX2_copyRule 18 = .ok (.iload_n 3, 1) := by decide +kernel
theorem dX2_copyRule_19 : decode cX2_copyRule 19 = .ok (.aload_n 0, 1) := by decide +kernel
theorem dX2_copyRule_20 : decode cX2_copyRule 20 = .ok (.getfield 23, 3) := by decide +kernel
theorem dX2_copyRule_23 : decode cX2_copyRule 23 = .ok (.iload_n 1, 1) := by decide +kernel
theorem dX2_copyRule_24 : decode cX2_copyRule 24 = .ok (.aaload, 1) := by decide +kernel
theorem dX2_copyRule_25 : decode cX2_copyRule 25 = .ok (.iload_n 3, 1) := by decide +kernel
theorem dX2_copyRule_26 : decode cX2_copyRule 26 = .ok (.iaload, 1) := by decide +kernel
theorem dX2_copyRule_27 : decode cX2_copyRule 27 = .ok (.i2l, 1) := by decide +kernel
theorem dX2_copyRule_28 : decode cX2_copyRule 28 = .ok (.invokevirtual 111, 3) := by decide +kernel
theorem dX2_copyRule_31 : decode cX2_copyRule 31 = .ok (.iinc 3 1, 3) := by decide +kernel
theorem dX2_copyRule_34 : decode cX2_copyRule 34 = .ok (.goto (-23), 3) := by decide +kernel
theorem dX2_copyRule_37 : decode cX2_copyRule 37 = .ok (.aload_n 2, 1) := by decide +kernel
theorem dX2_copyRule_38 : decode cX2_copyRule 38 = .ok (.aload_n 0, 1) := by decide +kernel
theorem dX2_copyRule_39 : decode cX2_copyRule 39 = .ok (.getfield 26, 3) := by decide +kernel
theorem dX2_copyRule_42 : decode cX2_copyRule 42 = .ok (.iload_n 1, 1) := by decide +kernel
theorem dX2_copyRule_43 : decode cX2_copyRule 43 = .ok (.iaload, 1) := by decide +kernel
theorem dX2_copyRule_44 : decode cX2_copyRule 44 = .ok (.i2l, 1) := by decide +kernel
theorem dX2_copyRule_45 : decode cX2_copyRule 45 = .ok (.putfield 117, 3) := by decide +kernel
theorem dX2_copyRule_48 : decode cX2_copyRule 48 = .ok (.return_, 1) := by decide +kernel
theorem dX2_copyCosts_0 : decode cX2_copyCosts 0 = .ok (.iconst 0, 1) := by decide +kernel
theorem dX2_copyCosts_1 : decode cX2_copyCosts 1 = .ok (.istore_n 2, 1) := by decide +kernel
theorem dX2_copyCosts_2 : decode cX2_copyCosts 2 = .ok (.iload_n 2, 1) := by decide +kernel
theorem dX2_copyCosts_3 : decode cX2_copyCosts 3 = .ok (.bipush 8, 2) := by decide +kernel
theorem dX2_copyCosts_5 : decode cX2_copyCosts 5 = .ok (.if_icmp .ge 21, 3) := by decide +kernel
theorem dX2_copyCosts_8 : decode cX2_copyCosts 8 = .ok (.aload_n 1, 1) := by decide +kernel
theorem dX2_copyCosts_9 : decode cX2_copyCosts 9 = .ok (.iload_n 2, 1) := by decide +kernel
theorem dX2_copyCosts_10 : decode cX2_copyCosts 10 = .ok (.aload_n 0, 1) := by decide +kernel
theorem dX2_copyCosts_11 : decode cX2_copyCosts 11 = .ok (.getfield 18, 3) := by decide +kernel
theorem dX2_copyCosts_14 : decode cX2_copyCosts 14 = .ok (.iload_n 2, 1) := by decide +kernel
theorem dX2_copyCosts_15 : decode cX2_copyCosts 15 = .ok (.iaload, 1) := by decide +kernel
theorem dX2_copyCosts_16 : decode cX2_copyCosts 16 = .ok (.i2l, 1) := by decide +kernel
theorem dX2_copyCosts_17 : decode cX2_copyCosts 17 = .ok (.invokevirtual 111, 3) := by decide +kernel
theorem dX2_copyCosts_20 : decode cX2_copyCosts 20 = .ok (.iinc 2 1, 3) := by decide +kernel
theorem dX2_copyCosts_23 : decode cX2_copyCosts 23 = .ok (.goto (-21), 3) := by decide +kernel
theorem dX2_copyCosts_26 : decode cX2_copyCosts 26 = .ok (.return_, 1) := by decide +kernel
theorem dX2_copyTable_0 : decode cX2_copyTable 0 = .ok (.aload_n 0, 1) := by decide +kernel
theorem dX2_copyTable_1 : decode cX2_copyTable 1 = .ok (.iload_n 1, 1) := by decide +kernel
theorem dX2_copyTable_2 : decode cX2_copyTable 2 = .ok (.invokevirtual 120, 3) := by decide +kernel
theorem dX2_copyTable_5 : decode cX2_copyTable 5 = .ok (.ifCond .ne 4, 3) := by decide +kernel
theorem dX2_copyTable_8 : decode cX2_copyTable 8 = .ok (.return_, 1) := by decide +kernel
theorem dX2_copyTable_9 : decode cX2_copyTable 9 = .ok (.aload 4, 2) := by decide +kernel
theorem dX2_copyTable_11 : decode cX2_copyTable 11 = .ok (.aload_n 0, 1) := by decide +kernel
theorem dX2_copyTable_12 : decode cX2_copyTable 12 = .ok (.getfield 29, 3) := by decide +kernel
theorem dX2_copyTable_15 : decode cX2_copyTable 15 = .ok (.iload_n 1, 1) := by decide +kernel
theorem dX2_copyTable_16 : decode cX2_copyTable 16 = .ok (.iaload, 1) := by decide +kernel
theorem dX2_copyTable_17 : decode cX2_copyTable 17 = .ok (.iload_n 2, 1) := by decide +kernel
theorem dX2_copyTable_18 : decode cX2_copyTable 18 = .ok (.i2l, 1) := by decide +kernel
theorem dX2_copyTable_19 : decode cX2_copyTable 19 = .ok (.invokevirtual 111, 3) := by decide +kernel
theorem dX2_copyTable_22 : decode cX2_copyTable 22 = .ok (.aload 4, 2) := by decide +kernel
theorem dX2_copyTable_24 : decode cX2_copyTable 24 = .ok (.aload_n 0, 1) := by decide +kernel
theorem dX2_copyTable_25 : decode cX2_copyTable 25 = .ok (.getfield 32, 3) := by decide +kernel
theorem dX2_copyTable_28 : decode cX2_copyTable 28 = .ok (.iload_n 1, 1) := by decide +kernel
theorem dX2_copyTable_29 : decode cX2_copyTable 29 = .ok (.iaload, 1) := by decide +kernel
theorem dX2_copyTable_30 : decode cX2_copyTable 30 = .ok (.iload_n 3, 1) := by decide +kernel
theorem dX2_copyTable_31 : decode cX2_copyTable 31 = .ok (.i2l, 1) := by decide +kernel
theorem dX2_copyTable_32 : decode cX2_copyTable 32 = .ok (.invokevirtual 111, 3) := by decide +kernel
theorem dX2_copyTable_35 : decode cX2_copyTable 35 = .ok (.iconst 0, 1) := by decide +kernel
theorem dX2_copyTable_36 : decode cX2_copyTable 36 = .ok (.istore 5, 2) := by decide +kernel
theorem dX2_copyTable_38 : decode cX2_copyTable 38 = .ok (.iload 5, 2) := by decide +kernel
theorem dX2_copyTable_40 : decode cX2_copyTable 40 = .ok (.bipush 20, 2) := by decide +kernel
theorem dX2_copyTable_42 : decode cX2_copyTable 42 = .ok (.if_icmp .ge 72, 3) := by decide +kernel
theorem dX2_copyTable_45 : decode cX2_copyTable 45 = .ok (.iload 5, 2) := by decide +kernel
theorem dX2_copyTable_47 : decode cX2_copyTable 47 = .ok (.aload_n 0, 1) := by decide +kernel
theorem dX2_copyTable_48 : decode cX2_copyTable 48 = .ok (.getfield 35, 3) := by decide +kernel
theorem dX2_copyTable_51 : decode cX2_copyTable 51 = .ok (.iload_n 1, 1) := by decide +kernel
theorem dX2_copyTable_52 : decode cX2_copyTable 52 = .ok (.iaload, 1) := by decide +kernel
theorem dX2_copyTable_53 : decode cX2_copyTable 53 = .ok (.if_icmp .ge 61, 3) := by decide +kernel
theorem dX2_copyTable_56 : decode cX2_copyTable 56 = .ok (.iload_n 2, 1) := by decide +kernel
theorem dX2_copyTable_57 : decode cX2_copyTable 57 = .ok (.i2l, 1) := by decide +kernel
theorem dX2_copyTable_58 : decode cX2_copyTable 58 = .ok (.aload_n 0, 1) := by decide +kernel
theorem dX2_copyTable_59 : decode cX2_copyTable 59 = .ok (.getfield 38, 3) := by decide +kernel
theorem dX2_copyTable_62 : decode cX2_copyTable 62 = .ok (.iload_n 1, 1) := by decide +kernel
theorem dX2_copyTable_63 : decode cX2_copyTable 63 = .ok (.aaload, 1) := by decide +kernel
theorem dX2_copyTable_64 : decode cX2_copyTable 64 = .ok (.iload 5, 2) := by decide +kernel
theorem dX2_copyTable_66 : decode cX2_copyTable 66 = .ok (.iaload, 1) := by decide +kernel
theorem dX2_copyTable_67 : decode cX2_copyTable 67 = .ok (.i2l, 1) := by decide +kernel
theorem dX2_copyTable_68 : decode cX2_copyTable 68 = .ok (.lmul, 1) := by decide +kernel
theorem dX2_copyTable_69 : decode cX2_copyTable 69 = .ok (.iload_n 3, 1) := by decide +kernel
theorem dX2_copyTable_70 : decode cX2_copyTable 70 = .ok (.i2l, 1) := by decide +kernel
theorem dX2_copyTable_71 : decode cX2_copyTable 71 = .ok (.aload_n 0, 1) := by decide +kernel
theorem dX2_copyTable_72 : decode cX2_copyTable 72 = .ok (.getfield 41, 3) := by decide +kernel
theorem dX2_copyTable_75 : decode cX2_copyTable 75 = .ok (.iload_n 1, 1) := by decide +kernel
theorem dX2_copyTable_76 : decode cX2_copyTable 76 = .ok (.aaload, 1) := by decide +kernel
theorem dX2_copyTable_77 : decode cX2_copyTable 77 = .ok (.iload 5, 2) := by decide +kernel
theorem dX2_copyTable_79 : decode cX2_copyTable 79 = .ok (.iaload, 1) := by decide +kernel
theorem dX2_copyTable_80 : decode cX2_copyTable 80 = .ok (.i2l, 1) := by decide +kernel
theorem dX2_copyTable_81 : decode cX2_copyTable 81 = .ok (.lmul, 1) := by decide +kernel
theorem dX2_copyTable_82 : decode cX2_copyTable 82 = .ok (.ladd, 1) := by decide +kernel
theorem dX2_copyTable_83 : decode cX2_copyTable 83 = .ok (.lstore 6, 2) := by decide +kernel
theorem dX2_copyTable_85 : decode cX2_copyTable 85 = .ok (.iload 5, 2) := by decide +kernel
theorem dX2_copyTable_87 : decode cX2_copyTable 87 = .ok (.ifCond .eq 14, 3) := by decide +kernel
theorem dX2_copyTable_90 : decode cX2_copyTable 90 = .ok (.lload 6, 2) := by decide +kernel
theorem dX2_copyTable_92 : decode cX2_copyTable 92 = .ok (.aload 4, 2) := by decide +kernel
theorem dX2_copyTable_94 : decode cX2_copyTable 94 = .ok (.getfield 117, 3) := by decide +kernel
theorem dX2_copyTable_97 : decode cX2_copyTable 97 = .ok (.lcmp, 1) := by decide +kernel
theorem dX2_copyTable_98 : decode cX2_copyTable 98 = .ok (.ifCond .le 10, 3) := by decide +kernel
theorem dX2_copyTable_101 : decode cX2_copyTable 101 = .ok (.aload 4, 2) := by decide +kernel
theorem dX2_copyTable_103 : decode cX2_copyTable 103 = .ok (.lload 6, 2) := by decide +kernel
theorem dX2_copyTable_105 : decode cX2_copyTable 105 = .ok (.putfield 117, 3) := by decide +kernel
theorem dX2_copyTable_108 : decode cX2_copyTable 108 = .ok (.iinc 5 1, 3) := by decide +kernel
theorem dX2_copyTable_111 : decode cX2_copyTable 111 = .ok (.goto (-73), 3) := by decide +kernel
theorem dX2_copyTable_114 : decode cX2_copyTable 114 = .ok (.return_, 1) := by decide +kernel
theorem dX3_isWithin_0 : decode cX3_isWithin 0 = .ok (.iload_n 0, 1) := by decide +kernel
theorem dX3_isWithin_1 : decode cX3_isWithin 1 = .ok (.iload_n 1, 1) := by decide +kernel
theorem dX3_isWithin_2 : decode cX3_isWithin 2 = .ok (.if_icmp .lt 12, 3) := by decide +kernel
theorem dX3_isWithin_5 : decode cX3_isWithin 5 = .ok (.iload_n 0, 1) := by decide +kernel
theorem dX3_isWithin_6 : decode cX3_isWithin 6 = .ok (.iload_n 2, 1) := by decide +kernel
theorem dX3_isWithin_7 : decode cX3_isWithin 7 = .ok (.if_icmp .gt 7, 3) := by decide +kernel
theorem dX3_isWithin_10 : decode cX3_isWithin 10 = .ok (.iconst 1, 1) := by decide +kernel
theorem dX3_isWithin_11 : decode cX3_isWithin 11 = .ok (.goto 4, 3) := by decide +kernel
theorem dX3_isWithin_14 : decode cX3_isWithin 14 = .ok (.iconst 0, 1) := by decide +kernel
theorem dX3_isWithin_15 : decode cX3_isWithin 15 = .ok (.ireturn, 1) := by decide +kernel
theorem dX3_at_0 : decode cX3_at 0 = .ok (.iload_n 1, 1) := by decide +kernel
theorem dX3_at_1 : decode cX3_at 1 = .ok (.ifCond .lt 15, 3) := by decide +kernel
theorem dX3_at_4 : decode cX3_at 4 = .ok (.iload_n 1, 1) := by decide +kernel
theorem dX3_at_5 : decode cX3_at 5 = .ok (.aload_n 0, 1) := by decide +kernel
theorem dX3_at_6 : decode cX3_at 6 = .ok (.arraylength, 1) := by decide +kernel
theorem dX3_at_7 : decode cX3_at 7 = .ok (.if_icmp .ge 9, 3) := by decide +kernel
theorem dX3_at_10 : decode cX3_at 10 = .ok (.aload_n 0, 1) := by decide +kernel
theorem dX3_at_11 : decode cX3_at 11 = .ok (.iload_n 1, 1) := by decide +kernel
theorem dX3_at_12 : decode cX3_at 12 = .ok (.iaload, 1) := by decide +kernel
theorem dX3_at_13 : decode cX3_at 13 = .ok (.goto 4, 3) := by decide +kernel
theorem dX3_at_16 : decode cX3_at 16 = .ok (.iconst 0, 1) := by decide +kernel
theorem dX3_at_17 : decode cX3_at 17 = .ok (.ireturn, 1) := by decide +kernel
theorem dX3_sumOf_0 : decode cX3_sumOf 0 = .ok (.lconst 0, 1) := by decide +kernel
theorem dX3_sumOf_1 : decode cX3_sumOf 1 = .ok (.lstore_n 2, 1) := by decide +kernel
theorem dX3_sumOf_2 : decode cX3_sumOf 2 = .ok (.iconst 0, 1) := by decide +kernel
theorem dX3_sumOf_3 : decode cX3_sumOf 3 = .ok (.istore 4, 2) := by decide +kernel
theorem dX3_sumOf_5 : decode cX3_sumOf 5 = .ok (.iload 4, 2) := by decide +kernel
theorem dX3_sumOf_7 : decode cX3_sumOf 7 = .ok (.aload_n 0, 1) := by decide +kernel
theorem dX3_sumOf_8 : decode cX3_sumOf 8 = .ok (.arraylength, 1) := by decide +kernel
theorem dX3_sumOf_9 : decode cX3_sumOf 9 = .ok (.if_icmp .ge 30, 3) := by decide +kernel
theorem dX3_sumOf_12 : decode cX3_sumOf 12 = .ok (.iload 4, 2) := by decide +kernel
theorem dX3_sumOf_14 : decode cX3_sumOf 14 = .ok (.aload_n 1, 1) := by decide +kernel
theorem dX3_sumOf_15 : decode cX3_sumOf 15 = .ok (.arraylength, 1) := by decide +kernel
theorem dX3_sumOf_16 : decode cX3_sumOf 16 = .ok (.if_icmp .ge 23, 3) := by decide +kernel
theorem dX3_sumOf_19 : decode cX3_sumOf 19 = .ok (.lload_n 2, 1) := by decide +kernel
theorem dX3_sumOf_20 : decode cX3_sumOf 20 = .ok (.aload_n 0, 1) := by decide +kernel
theorem dX3_sumOf_21 : decode cX3_sumOf 21 = .ok (.iload 4, 2) := by decide +kernel
theorem dX3_sumOf_23 : decode cX3_sumOf 23 = .ok (.iaload, 1) := by decide +kernel
theorem dX3_sumOf_24 : decode cX3_sumOf 24 = .ok (.i2l, 1) := by decide +kernel
theorem dX3_sumOf_25 : decode cX3_sumOf 25 = .ok (.aload_n 1, 1) := by decide +kernel
theorem dX3_sumOf_26 : decode cX3_sumOf 26 = .ok (.iload 4, 2) := by decide +kernel
theorem dX3_sumOf_28 : decode cX3_sumOf 28 = .ok (.iaload, 1) := by decide +kernel
theorem dX3_sumOf_29 : decode cX3_sumOf 29 = .ok (.i2l, 1) := by decide +kernel
theorem dX3_sumOf_30 : decode cX3_sumOf 30 = .ok (.lmul, 1) := by decide +kernel
theorem dX3_sumOf_31 : decode cX3_sumOf 31 = .ok (.ladd, 1) := by decide +kernel
theorem dX3_sumOf_32 : decode cX3_sumOf 32 = .ok (.lstore_n 2, 1) := by decide +kernel
theorem dX3_sumOf_33 : decode cX3_sumOf 33 = .ok (.iinc 4 1, 3) := by decide +kernel
theorem dX3_sumOf_36 : decode cX3_sumOf 36 = .ok (.goto (-31), 3) := by decide +kernel
theorem dX3_sumOf_39 : decode cX3_sumOf 39 = .ok (.lload_n 2, 1) := by decide +kernel
theorem dX3_sumOf_40 : decode cX3_sumOf 40 = .ok (.lreturn, 1) := by decide +kernel
theorem dX4_init_0 : decode cX4_init 0 = .ok (.aload_n 0, 1) := by decide +kernel
theorem dX4_init_1 : decode cX4_init 1 = .ok (.invokespecial 3, 3) := by decide +kernel
theorem dX4_init_4 : decode cX4_init 4 = .ok (.aload_n 0, 1) := by decide +kernel
theorem dX4_init_5 : decode cX4_init 5 = .ok (.bipush 8, 2) := by decide +kernel
theorem dX4_init_7 : decode cX4_init 7 = .ok (.bipush 8, 2) := by decide +kernel
theorem dX4_init_9 : decode cX4_init 9 = .ok (.multianewarray 9 2, 4) := by decide +kernel
theorem dX4_init_13 : decode cX4_init 13 = .ok (.putfield 11, 3) := by decide +kernel
theorem dX4_init_16 : decode cX4_init 16 = .ok (.aload_n 0, 1) := by decide +kernel
theorem dX4_init_17 : decode cX4_init 17 = .ok (.bipush 8, 2) := by decide +kernel
theorem dX4_init_19 : decode cX4_init 19 = .ok (.newarray .int, 2) := by decide +kernel
theorem dX4_init_21 : decode cX4_init 21 = .ok (.putfield 16, 3) := by decide +kernel
theorem dX4_init_24 : decode cX4_init 24 = .ok (.return_, 1) := by decide +kernel
theorem dX4_clear_0 : decode cX4_clear 0 = .ok (.aload_n 0, 1) := by decide +kernel
theorem dX4_clear_1 : decode cX4_clear 1 = .ok (.iconst 0, 1) := by decide +kernel
theorem dX4_clear_2 : decode cX4_clear 2 = .ok (.putfield 20, 3) := by decide +kernel
theorem dX4_clear_5 : decode cX4_clear 5 = .ok (.return_, 1) := by decide +kernel
theorem dX4_has_0 : decode cX4_has 0 = .ok (.iload_n 1, 1) := by decide +kernel
theorem dX4_has_1 : decode cX4_has 1 = .ok (.ifCond .lt 21, 3) := by decide +kernel
theorem dX4_has_4 : decode cX4_has 4 = .ok (.iload_n 1, 1) := by decide +kernel
theorem dX4_has_5 : decode cX4_has 5 = .ok (.aload_n 0, 1) := by decide +kernel
theorem dX4_has_6 : decode cX4_has 6 = .ok (.getfield 20, 3) := by decide +kernel
theorem dX4_has_9 : decode cX4_has 9 = .ok (.if_icmp .ge 13, 3) := by decide +kernel
theorem dX4_has_12 : decode cX4_has 12 = .ok (.iload_n 1, 1) := by decide +kernel
theorem dX4_has_13 : decode cX4_has 13 = .ok (.bipush 8, 2) := by decide +kernel
theorem dX4_has_15 : decode cX4_has 15 = .ok (.if_icmp .ge 7, 3) := by decide +kernel
theorem dX4_has_18 : decode cX4_has 18 = .ok (.iconst 1, 1) := by decide +kernel
theorem dX4_has_19 : decode cX4_has 19 = .ok (.goto 4, 3) := by decide +kernel
theorem dX4_has_22 : decode cX4_has 22 = .ok (.iconst 0, 1) := by decide +kernel
theorem dX4_has_23 : decode cX4_has 23 = .ok (.ireturn, 1) := by decide +kernel
theorem dX4_at_0 : decode cX4_at 0 = .ok (.aload_n 0, 1) := by decide +kernel
theorem dX4_at_1 : decode cX4_at 1 = .ok (.iload_n 1, 1) := by decide +kernel
theorem dX4_at_2 : decode cX4_at 2 = .ok (.invokevirtual 24, 3) := by decide +kernel
theorem dX4_at_5 : decode cX4_at 5 = .ok (.ifCond .eq 12, 3) := by decide +kernel
theorem dX4_at_8 : decode cX4_at 8 = .ok (.aload_n 0, 1) := by decide +kernel
theorem dX4_at_9 : decode cX4_at 9 = .ok (.getfield 11, 3) := by decide +kernel
theorem dX4_at_12 : decode cX4_at 12 = .ok (.iload_n 1, 1) := by decide +kernel
theorem dX4_at_13 : decode cX4_at 13 = .ok (.aaload, 1) := by decide +kernel
theorem dX4_at_14 : decode cX4_at 14 = .ok (.goto 7, 3) := by decide +kernel
theorem dX4_at_17 : decode cX4_at 17 = .ok (.aload_n 0, 1) := by decide +kernel
theorem dX4_at_18 : decode cX4_at 18 = .ok (.getfield 16, 3) := by decide +kernel
theorem dX4_at_21 : decode cX4_at 21 = .ok (.areturn, 1) := by decide +kernel
theorem dX4_add_0 : decode cX4_add 0 = .ok (.aload_n 0, 1) := by decide +kernel
theorem dX4_add_1 : decode cX4_add 1 = .ok (.getfield 20, 3) := by decide +kernel
theorem dX4_add_4 : decode cX4_add 4 = .ok (.ifCond .lt 12, 3) := by decide +kernel
theorem dX4_add_7 : decode cX4_add 7 = .ok (.aload_n 0, 1) := by decide +kernel
theorem dX4_add_8 : decode cX4_add 8 = .ok (.getfield 20, 3) := by decide +kernel
theorem dX4_add_11 : decode cX4_add 11 = .ok (.bipush 8, 2) := by decide +kernel
theorem dX4_add_13 : decode cX4_add 13 = .ok (.if_icmp .lt 6, 3) := by decide +kernel
theorem dX4_add_16 : decode cX4_add 16 = .ok (.bipush (-5), 2) := by decide +kernel
theorem dX4_add_18 : decode cX4_add 18 = .ok (.ireturn, 1) := by decide +kernel
theorem dX4_add_19 : decode cX4_add 19 = .ok (.iconst 0, 1) := by decide +kernel
theorem dX4_add_20 : decode cX4_add 20 = .ok (.istore_n 3, 1) := by decide +kernel
theorem dX4_add_21 : decode cX4_add 21 = .ok (.iload_n 3, 1) := by decide +kernel
theorem dX4_add_22 : decode cX4_add 22 = .ok (.bipush 8, 2) := by decide +kernel
theorem dX4_add_24 : decode cX4_add 24 = .ok (.if_icmp .ge 34, 3) := by decide +kernel
theorem dX4_add_27 : decode cX4_add 27 = .ok (.aload_n 0, 1) := by decide +kernel
theorem dX4_add_28 : decode cX4_add 28 = .ok (.getfield 11, 3) := by decide +kernel
theorem dX4_add_31 : decode cX4_add 31 = .ok (.aload_n 0, 1) := by decide +kernel
theorem dX4_add_32 : decode cX4_add 32 = .ok (.getfield 20, 3) := by decide +kernel
theorem dX4_add_35 : decode cX4_add 35 = .ok (.aaload, 1) := by decide +kernel
theorem dX4_add_36 : decode cX4_add 36 = .ok (.iload_n 3, 1) := by decide +kernel
theorem dX4_add_37 : decode cX4_add 37 = .ok (.iload_n 3, 1) := by decide +kernel
theorem dX4_add_38 : decode cX4_add 38 = .ok (.iload_n 2, 1) := by decide +kernel
theorem dX4_add_39 : decode cX4_add 39 = .ok (.if_icmp .ge 11, 3) := by decide +kernel
theorem dX4_add_42 : decode cX4_add 42 = .ok (.aload_n 1, 1) := by decide +kernel
theorem dX4_add_43 : decode cX4_add 43 = .ok (.iload_n 3, 1) := by decide +kernel
theorem dX4_add_44 : decode cX4_add 44 = .ok (.invokevirtual 28, 3) := by decide +kernel
theorem dX4_add_47 : decode cX4_add 47 = .ok (.goto 4, 3) := by decide +kernel
theorem dX4_add_50 : decode cX4_add 50 = .ok (.iconst 0, 1) := by decide +kernel
theorem dX4_add_51 : decode cX4_add 51 = .ok (.iastore, 1) := by decide +kernel
theorem dX4_add_52 : decode cX4_add 52 = .ok (.iinc 3 1, 3) := by decide +kernel
theorem dX4_add_55 : decode cX4_add 55 = .ok (.goto (-34), 3) := by decide +kernel
theorem dX4_add_58 : decode cX4_add 58 = .ok (.aload_n 0, 1) := by decide +kernel
theorem dX4_add_59 : decode cX4_add 59 = .ok (.dup, 1) := by decide +kernel
theorem dX4_add_60 : decode cX4_add 60 = .ok (.getfield 20, 3) := by decide +kernel
theorem dX4_add_63 : decode cX4_add 63 = .ok (.iconst 1, 1) := by decide +kernel
theorem dX4_add_64 : decode cX4_add 64 = .ok (.iadd, 1) := by decide +kernel
theorem dX4_add_65 : decode cX4_add 65 = .ok (.putfield 20, 3) := by decide +kernel
theorem dX4_add_68 : decode cX4_add 68 = .ok (.aload_n 0, 1) := by decide +kernel
theorem dX4_add_69 : decode cX4_add 69 = .ok (.getfield 20, 3) := by decide +kernel
theorem dX4_add_72 : decode cX4_add 72 = .ok (.iconst 1, 1) := by decide +kernel
theorem dX4_add_73 : decode cX4_add 73 = .ok (.isub, 1) := by decide +kernel
theorem dX4_add_74 : decode cX4_add 74 = .ok (.ireturn, 1) := by decide +kernel
theorem dX5_init_0 : decode cX5_init 0 = .ok (.aload_n 0, 1) := by decide +kernel
theorem dX5_init_1 : decode cX5_init 1 = .ok (.invokespecial 3, 3) := by decide +kernel
theorem dX5_init_4 : decode cX5_init 4 = .ok (.aload_n 0, 1) := by decide +kernel
theorem dX5_init_5 : decode cX5_init 5 = .ok (.bipush 8, 2) := by decide +kernel
theorem dX5_init_7 : decode cX5_init 7 = .ok (.newarray .long, 2) := by decide +kernel
theorem dX5_init_9 : decode cX5_init 9 = .ok (.putfield 9, 3) := by decide +kernel
theorem dX5_init_12 : decode cX5_init 12 = .ok (.return_, 1) := by decide +kernel
theorem dX5_clear_0 : decode cX5_clear 0 = .ok (.iconst 0, 1) := by decide +kernel
theorem dX5_clear_1 : decode cX5_clear 1 = .ok (.istore_n 1, 1) := by decide +kernel
theorem dX5_clear_2 : decode cX5_clear 2 = .ok (.iload_n 1, 1) := by decide +kernel
theorem dX5_clear_3 : decode cX5_clear 3 = .ok (.bipush 8, 2) := by decide +kernel
theorem dX5_clear_5 : decode cX5_clear 5 = .ok (.if_icmp .ge 16, 3) := by decide +kernel
theorem dX5_clear_8 : decode cX5_clear 8 = .ok (.aload_n 0, 1) := by decide +kernel
theorem dX5_clear_9 : decode cX5_clear 9 = .ok (.getfield 9, 3) := by decide +kernel
theorem dX5_clear_12 : decode cX5_clear 12 = .ok (.iload_n 1, 1) := by decide +kernel
theorem dX5_clear_13 : decode cX5_clear 13 = .ok (.lconst 0, 1) := by decide +kernel
theorem dX5_clear_14 : decode cX5_clear 14 = .ok (.lastore, 1) := by decide +kernel
theorem dX5_clear_15 : decode cX5_clear 15 = .ok (.iinc 1 1, 3) := by decide +kernel
theorem dX5_clear_18 : decode cX5_clear 18 = .ok (.goto (-16), 3) := by decide +kernel
theorem dX5_clear_21 : decode cX5_clear 21 = .ok (.aload_n 0, 1) := by decide +kernel
theorem dX5_clear_22 : decode cX5_clear 22 = .ok (.lconst 0, 1) := by decide +kernel
theorem dX5_clear_23 : decode cX5_clear 23 = .ok (.putfield 15, 3) := by decide +kernel
theorem dX5_clear_26 : decode cX5_clear 26 = .ok (.aload_n 0, 1) := by decide +kernel
theorem dX5_clear_27 : decode cX5_clear 27 = .ok (.lconst 0, 1) := by decide +kernel
theorem dX5_clear_28 : decode cX5_clear 28 = .ok (.putfield 19, 3) := by decide +kernel
theorem dX5_clear_31 : decode cX5_clear 31 = .ok (.aload_n 0, 1) := by decide +kernel
theorem dX5_clear_32 : decode cX5_clear 32 = .ok (.iconst 0, 1) := by decide +kernel
theorem dX5_clear_33 : decode cX5_clear 33 = .ok (.putfield 22, 3) := by decide +kernel
theorem dX5_clear_36 : decode cX5_clear 36 = .ok (.aload_n 0, 1) := by decide +kernel
theorem dX5_clear_37 : decode cX5_clear 37 = .ok (.lconst 0, 1) := by decide +kernel
theorem dX5_clear_38 : decode cX5_clear 38 = .ok (.putfield 26, 3) := by decide +kernel
theorem dX5_clear_41 : decode cX5_clear 41 = .ok (.return_, 1) := by decide +kernel
theorem dX5_setFactor_0 : decode cX5_setFactor 0 = .ok (.iload_n 1, 1) := by decide +kernel
theorem dX5_setFactor_1 : decode cX5_setFactor 1 = .ok (.ifCond .lt 16, 3) := by decide +kernel
theorem dX5_setFactor_4 : decode cX5_setFactor 4 = .ok (.iload_n 1, 1) := by decide +kernel
theorem dX5_setFactor_5 : decode cX5_setFactor 5 = .ok (.bipush 8, 2) := by decide +kernel
theorem dX5_setFactor_7 : decode cX5_setFactor 7 = .ok (.if_icmp .ge 10, 3) := by decide +kernel
theorem dX5_setFactor_10 : decode cX5_setFactor 10 = .ok (.aload_n 0, 1) := by decide +kernel
theorem dX5_setFactor_11 : decode cX5_setFactor 11 = .ok (.getfield 9, 3) := by decide +kernel
theorem dX5_setFactor_14 : decode cX5_setFactor 14 = .ok (.iload_n 1, 1) := by decide +kernel
theorem dX5_setFactor_15 : decode cX5_setFactor 15 = .ok (.lload_n 2, 1) := by decide +kernel
theorem dX5_setFactor_16 : decode cX5_setFactor 16 = .ok (.lastore, 1) := by decide +kernel
theorem dX5_setFactor_17 : decode cX5_setFactor 17 = .ok (.return_, 1) := by decide +kernel
theorem dX5_factorOf_0 : decode cX5_factorOf 0 = .ok (.iload_n 1, 1) := by decide +kernel
theorem dX5_factorOf_1 : decode cX5_factorOf 1 = .ok (.ifCond .lt 18, 3) := by decide +kernel
theorem dX5_factorOf_4 : decode cX5_factorOf 4 = .ok (.iload_n 1, 1) := by decide +kernel
theorem dX5_factorOf_5 : decode cX5_factorOf 5 = .ok (.bipush 8, 2) := by decide +kernel
theorem dX5_factorOf_7 : decode cX5_factorOf 7 = .ok (.if_icmp .ge 12, 3) := by decide +kernel
theorem dX5_factorOf_10 : decode cX5_factorOf 10 = .ok (.aload_n 0, 1) := by decide +kernel
theorem dX5_factorOf_11 : decode cX5_factorOf 11 = .ok (.getfield 9, 3) := by decide +kernel
theorem dX5_factorOf_14 : decode cX5_factorOf 14 = .ok (.iload_n 1, 1) := by decide +kernel
theorem dX5_factorOf_15 : decode cX5_factorOf 15 = .ok (.laload, 1) := by decide +kernel
theorem dX5_factorOf_16 : decode cX5_factorOf 16 = .ok (.goto 4, 3) := by decide +kernel
theorem dX5_factorOf_19 : decode cX5_factorOf 19 = .ok (.lconst 0, 1) := by decide +kernel
theorem dX5_factorOf_20 : decode cX5_factorOf 20 = .ok (.lreturn, 1) := by decide +kernel
theorem dX5_setSingle_0 : decode cX5_setSingle 0 = .ok (.aload_n 0, 1) := by decide +kernel
theorem dX5_setSingle_1 : decode cX5_setSingle 1 = .ok (.iload_n 1, 1) := by decide +kernel
theorem dX5_setSingle_2 : decode cX5_setSingle 2 = .ok (.lload_n 2, 1) := by decide +kernel
theorem dX5_setSingle_3 : decode cX5_setSingle 3 = .ok (.invokevirtual 29, 3) := by decide +kernel
theorem dX5_setSingle_6 : decode cX5_setSingle 6 = .ok (.aload_n 0, 1) := by decide +kernel
theorem dX5_setSingle_7 : decode cX5_setSingle 7 = .ok (.lload 4, 2) := by decide +kernel
theorem dX5_setSingle_9 : decode cX5_setSingle 9 = .ok (.putfield 15, 3) := by decide +kernel
theorem dX5_setSingle_12 : decode cX5_setSingle 12 = .ok (.return_, 1) := by decide +kernel
theorem dX5_setLimit_0 : decode cX5_setLimit 0 = .ok (.aload_n 0, 1) := by decide +kernel
theorem dX5_setLimit_1 : decode cX5_setLimit 1 = .ok (.iconst 1, 1) := by decide +kernel
theorem dX5_setLimit_2 : decode cX5_setLimit 2 = .ok (.putfield 22, 3) := by decide +kernel
theorem dX5_setLimit_5 : decode cX5_setLimit 5 = .ok (.aload_n 0, 1) := by decide +kernel
theorem dX5_setLimit_6 : decode cX5_setLimit 6 = .ok (.lload_n 1, 1) := by decide +kernel
theorem dX5_setLimit_7 : decode cX5_setLimit 7 = .ok (.putfield 26, 3) := by decide +kernel
theorem dX5_setLimit_10 : decode cX5_setLimit 10 = .ok (.return_, 1) := by decide +kernel
theorem dX5_inheritAssumptions_0 : decode cX5_inheritAssumptions 0 = .ok (.aload_n 0, 1) := by decide +kernel
theorem dX5_inheritAssumptions_1 : decode cX5_inheritAssumptions 1 = .ok (.dup, 1) := by decide +kernel
theorem dX5_inheritAssumptions_2 : decode cX5_inheritAssumptions 2 = .ok (.getfield 19, 3) := by decide +kernel
theorem dX5_inheritAssumptions_5 : decode cX5_inheritAssumptions 5 = .ok (.aload_n 1, 1) := by decide +kernel
theorem dX5_inheritAssumptions_6 : decode cX5_inheritAssumptions 6 = .ok (.getfield 19, 3) := by decide +kernel
theorem dX5_inheritAssumptions_9 : decode cX5_inheritAssumptions 9 = .ok (.lor, 1) := by decide +kernel
theorem dX5_inheritAssumptions_10 : decode cX5_inheritAssumptions 10 = .ok (.putfield 19, 3) := by decide +kernel
theorem dX5_inheritAssumptions_13 : decode cX5_inheritAssumptions 13 = .ok (.return_, 1) := by decide +kernel
theorem dX5_inheritLimit_0 : decode cX5_inheritLimit 0 = .ok (.aload_n 1, 1) := by decide +kernel
theorem dX5_inheritLimit_1 : decode cX5_inheritLimit 1 = .ok (.getfield 22, 3) := by decide +kernel
theorem dX5_inheritLimit_4 : decode cX5_inheritLimit 4 = .ok (.ifCond .eq 30, 3) := by decide +kernel
theorem dX5_inheritLimit_7 : decode cX5_inheritLimit 7 = .ok (.aload_n 0, 1) := by decide +kernel
theorem dX5_inheritLimit_8 : decode cX5_inheritLimit 8 = .ok (.getfield 22, 3) := by decide +kernel
theorem dX5_inheritLimit_11 : decode cX5_inheritLimit 11 = .ok (.ifCond .eq 15, 3) := by decide +kernel
theorem dX5_inheritLimit_14 : decode cX5_inheritLimit 14 = .ok (.aload_n 1, 1) := by decide +kernel
theorem dX5_inheritLimit_15 : decode cX5_inheritLimit 15 = .ok (.getfield 26, 3) := by decide +kernel
theorem dX5_inheritLimit_18 : decode cX5_inheritLimit 18 = .ok (.aload_n 0, 1) := by decide +kernel
theorem dX5_inheritLimit_19 : decode cX5_inheritLimit 19 = .ok (.getfield 26, 3) := by decide +kernel
theorem dX5_inheritLimit_22 : decode cX5_inheritLimit 22 = .ok (.lcmp, 1) := by decide +kernel
theorem dX5_inheritLimit_23 : decode cX5_inheritLimit 23 = .ok (.ifCond .ge 11, 3) := by decide +kernel
theorem dX5_inheritLimit_26 : decode cX5_inheritLimit 26 = .ok (.aload_n 0, 1) := by decide +kernel
theorem dX5_inheritLimit_27 : decode cX5_inheritLimit 27 = .ok (.aload_n 1, 1) := by decide +kernel
theorem dX5_inheritLimit_28 : decode cX5_inheritLimit 28 = .ok (.getfield 26, 3) := by decide +kernel
theorem dX5_inheritLimit_31 : decode cX5_inheritLimit 31 = .ok (.invokevirtual 33, 3) := by decide +kernel
theorem dX5_inheritLimit_34 : decode cX5_inheritLimit 34 = .ok (.return_, 1) := by decide +kernel
theorem dX5_addTimes_0 : decode cX5_addTimes 0 = .ok (.iconst 0, 1) := by decide +kernel
theorem dX5_addTimes_1 : decode cX5_addTimes 1 = .ok (.istore 4, 2) := by decide +kernel
theorem dX5_addTimes_3 : decode cX5_addTimes 3 = .ok (.iload 4, 2) := by decide +kernel
theorem dX5_addTimes_5 : decode cX5_addTimes 5 = .ok (.bipush 8, 2) := by decide +kernel
theorem dX5_addTimes_7 : decode cX5_addTimes 7 = .ok (.if_icmp .ge 28, 3) := by decide +kernel
theorem dX5_addTimes_10 : decode cX5_addTimes 10 = .ok (.aload_n 0, 1) := by decide +kernel
theorem dX5_addTimes_11 : decode cX5_addTimes 11 = .ok (.getfield 9, 3) := by decide +kernel
theorem dX5_addTimes_14 : decode cX5_addTimes 14 = .ok (.iload 4, 2) := by decide +kernel
theorem dX5_addTimes_16 : decode cX5_addTimes 16 = .ok (.dup2, 1) := by decide +kernel
theorem dX5_addTimes_17 : decode cX5_addTimes 17 = .ok (.laload, 1) := by decide +kernel
theorem dX5_addTimes_18 : decode cX5_addTimes 18 = .ok (.lload_n 2, 1) := by decide +kernel
theorem dX5_addTimes_19 : decode cX5_addTimes 19 = .ok (.aload_n 1, 1) := by decide +kernel
theorem dX5_addTimes_20 : decode cX5_addTimes 20 = .ok (.getfield 9, 3) := by decide +kernel
theorem dX5_addTimes_23 : decode cX5_addTimes 23 = .ok (.iload 4, 2) := by decide +kernel
theorem dX5_addTimes_25 : decode cX5_addTimes 25 = .ok (.laload, 1) := by decide +kernel
theorem dX5_addTimes_26 : decode cX5_addTimes 26 = .ok (.lmul, 1) := by decide +kernel
theorem dX5_addTimes_27 : decode cX5_addTimes 27 = .ok (.ladd, 1) := by decide +kernel
theorem dX5_addTimes_28 : decode cX5_addTimes 28 = .ok (.lastore, 1) := by decide +kernel
theorem dX5_addTimes_29 : decode cX5_addTimes 29 = .ok (.iinc 4 1, 3) := by decide +kernel
theorem dX5_addTimes_32 : decode cX5_addTimes 32 = .ok (.goto (-29), 3) := by decide +kernel
theorem dX5_addTimes_35 : decode cX5_addTimes 35 = .ok (.aload_n 0, 1) := by decide +kernel
theorem dX5_addTimes_36 : decode cX5_addTimes 36 = .ok (.dup, 1) := by decide +kernel
theorem dX5_addTimes_37 : decode cX5_addTimes 37 = .ok (.getfield 15, 3) := by decide +kernel
theorem dX5_addTimes_40 : decode cX5_addTimes 40 = .ok (.lload_n 2, 1) := by decide +kernel
theorem dX5_addTimes_41 : decode cX5_addTimes 41 = .ok (.aload_n 1, 1) := by decide +kernel
theorem dX5_addTimes_42 : decode cX5_addTimes 42 = .ok (.getfield 15, 3) := by decide +kernel
theorem dX5_addTimes_45 : decode cX5_addTimes 45 = .ok (.lmul, 1) := by decide +kernel
theorem dX5_addTimes_46 : decode cX5_addTimes 46 = .ok (.ladd, 1) := by decide +kernel
theorem dX5_addTimes_47 : decode cX5_addTimes 47 = .ok (.putfield 15, 3) := by decide +kernel
theorem dX5_addTimes_50 : decode cX5_addTimes 50 = .ok (.return_, 1) := by decide +kernel
theorem dX5_isMadeOfZeros_0 : decode cX5_isMadeOfZeros 0 = .ok (.iconst 0, 1) := by decide +kernel
theorem dX5_isMadeOfZeros_1 : decode cX5_isMadeOfZeros 1 = .ok (.istore_n 1, 1) := by decide +kernel
theorem dX5_isMadeOfZeros_2 : decode cX5_isMadeOfZeros 2 = .ok (.iload_n 1, 1) := by decide +kernel
theorem dX5_isMadeOfZeros_3 : decode cX5_isMadeOfZeros 3 = .ok (.bipush 8, 2) := by decide +kernel
theorem dX5_isMadeOfZeros_5 : decode cX5_isMadeOfZeros 5 = .ok (.if_icmp .ge 22, 3) := by decide +kernel
theorem dX5_isMadeOfZeros_8 : decode cX5_isMadeOfZeros 8 = .ok (.aload_n 0, 1) := by decide +kernel
theorem dX5_isMadeOfZeros_9 : decode cX5_isMadeOfZeros 9 = .ok (.getfield 9, 3) := by decide +kernel
theorem dX5_isMadeOfZeros_12 : decode cX5_isMadeOfZeros 12 = .ok (.iload_n 1, 1) := by decide +kernel
theorem dX5_isMadeOfZeros_13 : decode cX5_isMadeOfZeros 13 = .ok (.laload, 1) := by decide +kernel
theorem dX5_isMadeOfZeros_14 : decode cX5_isMadeOfZeros 14 = .ok (.lconst 0, 1) := by decide +kernel
theorem dX5_isMadeOfZeros_15 : decode cX5_isMadeOfZeros 15 = .ok (.lcmp, 1) := by decide +kernel
theorem dX5_isMadeOfZeros_16 : decode cX5_isMadeOfZeros 16 = .ok (.ifCond .eq 5, 3) := by decide +kernel
theorem dX5_isMadeOfZeros_19 : decode cX5_isMadeOfZeros 19 = .ok (.iconst 0, 1) := by decide +kernel
theorem dX5_isMadeOfZeros_20 : decode cX5_isMadeOfZeros 20 = .ok (.ireturn, 1) := by decide +kernel
theorem dX5_isMadeOfZeros_21 : decode cX5_isMadeOfZeros 21 = .ok (.iinc 1 1, 3) := by decide +kernel
theorem dX5_isMadeOfZeros_24 : decode cX5_isMadeOfZeros 24 = .ok (.goto (-22), 3) := by decide +kernel
theorem dX5_isMadeOfZeros_27 : decode cX5_isMadeOfZeros 27 = .ok (.iconst 1, 1) := by decide +kernel
theorem dX5_isMadeOfZeros_28 : decode cX5_isMadeOfZeros 28 = .ok (.ireturn, 1) := by decide +kernel
theorem dX5_isImpossible_0 : decode cX5_isImpossible 0 = .ok (.aload_n 0, 1) := by decide +kernel
theorem dX5_isImpossible_1 : decode cX5_isImpossible 1 = .ok (.getfield 15, 3) := by decide +kernel
theorem dX5_isImpossible_4 : decode cX5_isImpossible 4 = .ok (.lconst 0, 1) := by decide +kernel
theorem dX5_isImpossible_5 : decode cX5_isImpossible 5 = .ok (.lcmp, 1) := by decide +kernel
theorem dX5_isImpossible_6 : decode cX5_isImpossible 6 = .ok (.ifCond .ge 14, 3) := by decide +kernel
theorem dX5_isImpossible_9 : decode cX5_isImpossible 9 = .ok (.aload_n 0, 1) := by decide +kernel
theorem dX5_isImpossible_10 : decode cX5_isImpossible 10 = .ok (.invokevirtual 37, 3) := by decide +kernel
theorem dX5_isImpossible_13 : decode cX5_isImpossible 13 = .ok (.ifCond .eq 7, 3) := by decide +kernel
theorem dX5_isImpossible_16 : decode cX5_isImpossible 16 = .ok (.iconst 1, 1) := by decide +kernel
theorem dX5_isImpossible_17 : decode cX5_isImpossible 17 = .ok (.goto 4, 3) := by decide +kernel
theorem dX5_isImpossible_20 : decode cX5_isImpossible 20 = .ok (.iconst 0, 1) := by decide +kernel
theorem dX5_isImpossible_21 : decode cX5_isImpossible 21 = .ok (.ireturn, 1) := by decide +kernel
theorem dX5_hasFactorsOf_0 : decode cX5_hasFactorsOf 0 = .ok (.iconst 0, 1) := by decide +kernel
theorem dX5_hasFactorsOf_1 : decode cX5_hasFactorsOf 1 = .ok (.istore_n 2, 1) := by decide +kernel
theorem dX5_hasFactorsOf_2 : decode cX5_hasFactorsOf 2 = .ok (.iload_n 2, 1) := by decide +kernel
theorem dX5_hasFactorsOf_3 : decode cX5_hasFactorsOf 3 = .ok (.bipush 8, 2) := by decide +kernel
theorem dX5_hasFactorsOf_5 : decode cX5_hasFactorsOf 5 = .ok (.if_icmp .ge 27, 3) := by decide +kernel
theorem dX5_hasFactorsOf_8 : decode cX5_hasFactorsOf 8 = .ok (.aload_n 0, 1) := by decide +kernel
theorem dX5_hasFactorsOf_9 : decode cX5_hasFactorsOf 9 = .ok (.getfield 9, 3) := by decide +kernel
theorem dX5_hasFactorsOf_12 : decode cX5_hasFactorsOf 12 = .ok (.iload_n 2, 1) := by decide +kernel
theorem dX5_hasFactorsOf_13 : decode cX5_hasFactorsOf 13 = .ok (.laload, 1) := by decide +kernel
theorem dX5_hasFactorsOf_14 : decode cX5_hasFactorsOf 14 = .ok (.aload_n 1, 1) := by decide +kernel
theorem dX5_hasFactorsOf_15 : decode cX5_hasFactorsOf 15 = .ok (.getfield 9, 3) := by decide +kernel
theorem dX5_hasFactorsOf_18 : decode cX5_hasFactorsOf 18 = .ok (.iload_n 2, 1) := by decide +kernel
theorem dX5_hasFactorsOf_19 : decode cX5_hasFactorsOf 19 = .ok (.laload, 1) := by decide +kernel
theorem dX5_hasFactorsOf_20 : decode cX5_hasFactorsOf 20 = .ok (.lcmp, 1) := by decide +kernel
theorem dX5_hasFactorsOf_21 : decode cX5_hasFactorsOf 21 = .ok (.ifCond .eq 5, 3) := by decide +kernel
theorem dX5_hasFactorsOf_24 : decode cX5_hasFactorsOf 24 = .ok (.iconst 0, 1) := by decide +kernel
theorem dX5_hasFactorsOf_25 : decode cX5_hasFactorsOf 25 = .ok (.ireturn, 1) := by decide +kernel
theorem dX5_hasFactorsOf_26 : decode cX5_hasFactorsOf 26 = .ok (.iinc 2 1, 3) := by decide +kernel
theorem dX5_hasFactorsOf_29 : decode cX5_hasFactorsOf 29 = .ok (.goto (-27), 3) := by decide +kernel
theorem dX5_hasFactorsOf_32 : decode cX5_hasFactorsOf 32 = .ok (.iconst 1, 1) := by decide +kernel
theorem dX5_hasFactorsOf_33 : decode cX5_hasFactorsOf 33 = .ok (.ireturn, 1) := by decide +kernel
theorem dX5_isTooGreat_0 : decode cX5_isTooGreat 0 = .ok (.iconst 0, 1) := by decide +kernel
theorem dX5_isTooGreat_1 : decode cX5_isTooGreat 1 = .ok (.istore_n 1, 1) := by decide +kernel
theorem dX5_isTooGreat_2 : decode cX5_isTooGreat 2 = .ok (.iload_n 1, 1) := by decide +kernel
theorem dX5_isTooGreat_3 : decode cX5_isTooGreat 3 = .ok (.bipush 8, 2) := by decide +kernel
theorem dX5_isTooGreat_5 : decode cX5_isTooGreat 5 = .ok (.if_icmp .ge 37, 3) := by decide +kernel
theorem dX5_isTooGreat_8 : decode cX5_isTooGreat 8 = .ok (.aload_n 0, 1) := by decide +kernel
theorem dX5_isTooGreat_9 : decode cX5_isTooGreat 9 = .ok (.getfield 9, 3) := by decide +kernel
theorem dX5_isTooGreat_12 : decode cX5_isTooGreat 12 = .ok (.iload_n 1, 1) := by decide +kernel
theorem dX5_isTooGreat_13 : decode cX5_isTooGreat 13 = .ok (.laload, 1) := by decide +kernel
theorem dX5_isTooGreat_14 : decode cX5_isTooGreat 14 = .ok (.ldc2_w 41, 3) := by decide +kernel
theorem dX5_isTooGreat_17 : decode cX5_isTooGreat 17 = .ok (.lcmp, 1) := by decide +kernel
theorem dX5_isTooGreat_18 : decode cX5_isTooGreat 18 = .ok (.ifCond .lt 16, 3) := by decide +kernel
theorem dX5_isTooGreat_21 : decode cX5_isTooGreat 21 = .ok (.aload_n 0, 1) := by decide +kernel
theorem dX5_isTooGreat_22 : decode cX5_isTooGreat 22 = .ok (.getfield 9, 3) := by decide +kernel
theorem dX5_isTooGreat_25 : decode cX5_isTooGreat 25 = .ok (.iload_n 1, 1) := by decide +kernel
theorem dX5_isTooGreat_26 : decode cX5_isTooGreat 26 = .ok (.laload, 1) := by decide +kernel
theorem dX5_isTooGreat_27 : decode cX5_isTooGreat 27 = .ok (.ldc2_w 43, 3) := by decide +kernel
theorem dX5_isTooGreat_30 : decode cX5_isTooGreat 30 = .ok (.lcmp, 1) := by decide +kernel
theorem dX5_isTooGreat_31 : decode cX5_isTooGreat 31 = .ok (.ifCond .le 5, 3) := by decide +kernel
theorem dX5_isTooGreat_34 : decode cX5_isTooGreat 34 = .ok (.iconst 1, 1) := by decide +kernel
theorem dX5_isTooGreat_35 : decode cX5_isTooGreat 35 = .ok (.ireturn, 1) := by decide +kernel
theorem dX5_isTooGreat_36 : decode cX5_isTooGreat 36 = .ok (.iinc 1 1, 3) := by decide +kernel
theorem dX5_isTooGreat_39 : decode cX5_isTooGreat 39 = .ok (.goto (-37), 3) := by decide +kernel
theorem dX5_isTooGreat_42 : decode cX5_isTooGreat 42 = .ok (.aload_n 0, 1) := by decide +kernel
theorem dX5_isTooGreat_43 : decode cX5_isTooGreat 43 = .ok (.getfield 15, 3) := by decide +kernel
theorem dX5_isTooGreat_46 : decode cX5_isTooGreat 46 = .ok (.ldc2_w 41, 3) := by decide +kernel
theorem dX5_isTooGreat_49 : decode cX5_isTooGreat 49 = .ok (.lcmp, 1) := by decide +kernel
theorem dX5_isTooGreat_50 : decode cX5_isTooGreat 50 = .ok (.ifCond .lt 14, 3) := by decide +kernel
theorem dX5_isTooGreat_53 : decode cX5_isTooGreat 53 = .ok (.aload_n 0, 1) := by decide +kernel
theorem dX5_isTooGreat_54 : decode cX5_isTooGreat 54 = .ok (.getfield 15, 3) := by decide +kernel
theorem dX5_isTooGreat_57 : decode cX5_isTooGreat 57 = .ok (.ldc2_w 43, 3) := by decide +kernel
theorem dX5_isTooGreat_60 : decode cX5_isTooGreat 60 = .ok (.lcmp, 1) := by decide +kernel
theorem dX5_isTooGreat_61 : decode cX5_isTooGreat 61 = .ok (.ifCond .le 7, 3) := by decide +kernel
theorem dX5_isTooGreat_64 : decode cX5_isTooGreat 64 = .ok (.iconst 1, 1) := by decide +kernel
theorem dX5_isTooGreat_65 : decode cX5_isTooGreat 65 = .ok (.goto 4, 3) := by decide +kernel
theorem dX5_isTooGreat_68 : decode cX5_isTooGreat 68 = .ok (.iconst 0, 1) := by decide +kernel
theorem dX5_isTooGreat_69 : decode cX5_isTooGreat 69 = .ok (.ireturn, 1) := by decide +kernel
theorem dX5_isBranch_0 : decode cX5_isBranch 0 = .ok (.aload_n 0, 1) := by decide +kernel
theorem dX5_isBranch_1 : decode cX5_isBranch 1 = .ok (.getfield 45, 3) := by decide +kernel
theorem dX5_isBranch_4 : decode cX5_isBranch 4 = .ok (.bipush 6, 2) := by decide +kernel
theorem dX5_isBranch_6 : decode cX5_isBranch 6 = .ok (.if_icmp .ne 15, 3) := by decide +kernel
theorem dX5_isBranch_9 : decode cX5_isBranch 9 = .ok (.aload_n 0, 1) := by decide +kernel
theorem dX5_isBranch_10 : decode cX5_isBranch 10 = .ok (.getfield 49, 3) := by decide +kernel
theorem dX5_isBranch_13 : decode cX5_isBranch 13 = .ok (.iload_n 1, 1) := by decide +kernel
theorem dX5_isBranch_14 : decode cX5_isBranch 14 = .ok (.if_icmp .ne 7, 3) := by decide +kernel
theorem dX5_isBranch_17 : decode cX5_isBranch 17 = .ok (.iconst 1, 1) := by decide +kernel
theorem dX5_isBranch_18 : decode cX5_isBranch 18 = .ok (.goto 4, 3) := by decide +kernel
theorem dX5_isBranch_21 : decode cX5_isBranch 21 = .ok (.iconst 0, 1) := by decide +kernel
theorem dX5_isBranch_22 : decode cX5_isBranch 22 = .ok (.ireturn, 1) := by decide +kernel
theorem dX5_isKeptBy_0 : decode cX5_isKeptBy 0 = .ok (.lconst 0, 1) := by decide +kernel
theorem dX5_isKeptBy_1 : decode cX5_isKeptBy 1 = .ok (.lstore_n 2, 1) := by decide +kernel
theorem dX5_isKeptBy_2 : decode cX5_isKeptBy 2 = .ok (.iconst 0, 1) := by decide +kernel
theorem dX5_isKeptBy_3 : decode cX5_isKeptBy 3 = .ok (.istore 4, 2) := by decide +kernel
theorem dX5_isKeptBy_5 : decode cX5_isKeptBy 5 = .ok (.iload 4, 2) := by decide +kernel
theorem dX5_isKeptBy_7 : decode cX5_isKeptBy 7 = .ok (.bipush 8, 2) := by decide +kernel
theorem dX5_isKeptBy_9 : decode cX5_isKeptBy 9 = .ok (.if_icmp .ge 27, 3) := by decide +kernel
theorem dX5_isKeptBy_12 : decode cX5_isKeptBy 12 = .ok (.lload_n 2, 1) := by decide +kernel
theorem dX5_isKeptBy_13 : decode cX5_isKeptBy 13 = .ok (.aload_n 0, 1) := by decide +kernel
theorem dX5_isKeptBy_14 : decode cX5_isKeptBy 14 = .ok (.getfield 9, 3) := by decide +kernel
theorem dX5_isKeptBy_17 : decode cX5_isKeptBy 17 = .ok (.iload 4, 2) := by decide +kernel
theorem dX5_isKeptBy_19 : decode cX5_isKeptBy 19 = .ok (.laload, 1) := by decide +kernel
theorem dX5_isKeptBy_20 : decode cX5_isKeptBy 20 = .ok (.aload_n 1, 1) := by decide +kernel
theorem dX5_isKeptBy_21 : decode cX5_isKeptBy 21 = .ok (.iload 4, 2) := by decide +kernel
theorem dX5_isKeptBy_23 : decode cX5_isKeptBy 23 = .ok (.invokestatic 52, 3) := by decide +kernel
theorem dX5_isKeptBy_26 : decode cX5_isKeptBy 26 = .ok (.i2l, 1) := by decide +kernel
theorem dX5_isKeptBy_27 : decode cX5_isKeptBy 27 = .ok (.lmul, 1) := by decide +kernel
theorem dX5_isKeptBy_28 : decode cX5_isKeptBy 28 = .ok (.ladd, 1) := by decide +kernel
theorem dX5_isKeptBy_29 : decode cX5_isKeptBy 29 = .ok (.lstore_n 2, 1) := by decide +kernel
theorem dX5_isKeptBy_30 : decode cX5_isKeptBy 30 = .ok (.iinc 4 1, 3) := by decide +kernel
theorem dX5_isKeptBy_33 : decode cX5_isKeptBy 33 = .ok (.goto (-28), 3) := by decide +kernel
theorem dX5_isKeptBy_36 : decode cX5_isKeptBy 36 = .ok (.lload_n 2, 1) := by decide +kernel
theorem dX5_isKeptBy_37 : decode cX5_isKeptBy 37 = .ok (.aload_n 0, 1) := by decide +kernel
theorem dX5_isKeptBy_38 : decode cX5_isKeptBy 38 = .ok (.getfield 15, 3) := by decide +kernel
theorem dX5_isKeptBy_41 : decode cX5_isKeptBy 41 = .ok (.lcmp, 1) := by decide +kernel
theorem dX5_isKeptBy_42 : decode cX5_isKeptBy 42 = .ok (.ifCond .gt 7, 3) := by decide +kernel
theorem dX5_isKeptBy_45 : decode cX5_isKeptBy 45 = .ok (.iconst 1, 1) := by decide +kernel
theorem dX5_isKeptBy_46 : decode cX5_isKeptBy 46 = .ok (.goto 4, 3) := by decide +kernel
theorem dX5_isKeptBy_49 : decode cX5_isKeptBy 49 = .ok (.iconst 0, 1) := by decide +kernel
theorem dX5_isKeptBy_50 : decode cX5_isKeptBy 50 = .ok (.ireturn, 1) := by decide +kernel
theorem dX5_timesLessCosts_0 : decode cX5_timesLessCosts 0 = .ok (.lconst 0, 1) := by decide +kernel
theorem dX5_timesLessCosts_1 : decode cX5_timesLessCosts 1 = .ok (.lstore_n 2, 1) := by decide +kernel
theorem dX5_timesLessCosts_2 : decode cX5_timesLessCosts 2 = .ok (.iconst 0, 1) := by decide +kernel
theorem dX5_timesLessCosts_3 : decode cX5_timesLessCosts 3 = .ok (.istore 4, 2) := by decide +kernel
theorem dX5_timesLessCosts_5 : decode cX5_timesLessCosts 5 = .ok (.iload 4, 2) := by decide +kernel
theorem dX5_timesLessCosts_7 : decode cX5_timesLessCosts 7 = .ok (.bipush 8, 2) := by decide +kernel
theorem dX5_timesLessCosts_9 : decode cX5_timesLessCosts 9 = .ok (.if_icmp .ge 49, 3) := by decide +kernel
theorem dX5_timesLessCosts_12 : decode cX5_timesLessCosts 12 = .ok (.lload_n 2, 1) := by decide +kernel
theorem dX5_timesLessCosts_13 : decode cX5_timesLessCosts 13 = .ok (.lconst 0, 1) := by decide +kernel
theorem dX5_timesLessCosts_14 : decode cX5_timesLessCosts 14 = .ok (.lcmp, 1) := by decide +kernel
theorem dX5_timesLessCosts_15 : decode cX5_timesLessCosts 15 = .ok (.ifCond .ne 43, 3) := by decide +kernel
theorem dX5_timesLessCosts_18 : decode cX5_timesLessCosts 18 = .ok (.aload_n 1, 1) := by decide +kernel
theorem dX5_timesLessCosts_19 : decode cX5_timesLessCosts 19 = .ok (.iload 4, 2) := by decide +kernel
theorem dX5_timesLessCosts_21 : decode cX5_timesLessCosts 21 = .ok (.invokestatic 52, 3) := by decide +kernel
theorem dX5_timesLessCosts_24 : decode cX5_timesLessCosts 24 = .ok (.istore 5, 2) := by decide +kernel
theorem dX5_timesLessCosts_26 : decode cX5_timesLessCosts 26 = .ok (.iload 5, 2) := by decide +kernel
theorem dX5_timesLessCosts_28 : decode cX5_timesLessCosts 28 = .ok (.ifCond .eq 24, 3) := by decide +kernel
theorem dX5_timesLessCosts_31 : decode cX5_timesLessCosts 31 = .ok (.aload_n 0, 1) := by decide +kernel
theorem dX5_timesLessCosts_32 : decode cX5_timesLessCosts 32 = .ok (.getfield 9, 3) := by decide +kernel
theorem dX5_timesLessCosts_35 : decode cX5_timesLessCosts 35 = .ok (.iload 4, 2) := by decide +kernel
theorem dX5_timesLessCosts_37 : decode cX5_timesLessCosts 37 = .ok (.laload, 1) := by decide +kernel
theorem dX5_timesLessCosts_38 : decode cX5_timesLessCosts 38 = .ok (.iload 5, 2) := by decide +kernel
theorem dX5_timesLessCosts_40 : decode cX5_timesLessCosts 40 = .ok (.i2l, 1) := by decide +kernel
theorem dX5_timesLessCosts_41 : decode cX5_timesLessCosts 41 = .ok (.ldiv, 1) := by decide +kernel
theorem dX5_timesLessCosts_42 : decode cX5_timesLessCosts 42 = .ok (.lneg, 1) := by decide +kernel
theorem dX5_timesLessCosts_43 : decode cX5_timesLessCosts 43 = .ok (.lstore_n 2, 1) := by decide +kernel
theorem dX5_timesLessCosts_44 : decode cX5_timesLessCosts 44 = .ok (.lload_n 2, 1) := by decide +kernel
theorem dX5_timesLessCosts_45 : decode cX5_timesLessCosts 45 = .ok (.lconst 1, 1) := by decide +kernel
theorem dX5_timesLessCosts_46 : decode cX5_timesLessCosts 46 = .ok (.lcmp, 1) := by decide +kernel
theorem dX5_timesLessCosts_47 : decode cX5_timesLessCosts 47 = .ok (.ifCond .ge 5, 3) := by decide +kernel
theorem dX5_timesLessCosts_50 : decode cX5_timesLessCosts 50 = .ok (.lconst 0, 1) := by decide +kernel
theorem dX5_timesLessCosts_51 : decode cX5_timesLessCosts 51 = .ok (.lreturn, 1) := by decide +kernel
theorem dX5_timesLessCosts_52 : decode cX5_timesLessCosts 52 = .ok (.iinc 4 1, 3) := by decide +kernel
theorem dX5_timesLessCosts_55 : decode cX5_timesLessCosts 55 = .ok (.goto (-50), 3) := by decide +kernel
theorem dX5_timesLessCosts_58 : decode cX5_timesLessCosts 58 = .ok (.iconst 0, 1) := by decide +kernel
theorem dX5_timesLessCosts_59 : decode cX5_timesLessCosts 59 = .ok (.istore 4, 2) := by decide +kernel
theorem dX5_timesLessCosts_61 : decode cX5_timesLessCosts 61 = .ok (.iload 4, 2) := by decide +kernel
theorem dX5_timesLessCosts_63 : decode cX5_timesLessCosts 63 = .ok (.bipush 8, 2) := by decide +kernel
theorem dX5_timesLessCosts_65 : decode cX5_timesLessCosts 65 = .ok (.if_icmp .ge 32, 3) := by decide +kernel
theorem dX5_timesLessCosts_68 : decode cX5_timesLessCosts 68 = .ok (.aload_n 0, 1) := by decide +kernel
theorem dX5_timesLessCosts_69 : decode cX5_timesLessCosts 69 = .ok (.getfield 9, 3) := by decide +kernel
theorem dX5_timesLessCosts_72 : decode cX5_timesLessCosts 72 = .ok (.iload 4, 2) := by decide +kernel
theorem dX5_timesLessCosts_74 : decode cX5_timesLessCosts 74 = .ok (.laload, 1) := by decide +kernel
theorem dX5_timesLessCosts_75 : decode cX5_timesLessCosts 75 = .ok (.lload_n 2, 1) := by decide +kernel
theorem dX5_timesLessCosts_76 : decode cX5_timesLessCosts 76 = .ok (.lneg, 1) := by decide +kernel
theorem dX5_timesLessCosts_77 : decode cX5_timesLessCosts 77 = .ok (.aload_n 1, 1) := by decide +kernel
theorem dX5_timesLessCosts_78 : decode cX5_timesLessCosts 78 = .ok (.iload 4, 2) := by decide +kernel
theorem dX5_timesLessCosts_80 : decode cX5_timesLessCosts 80 = .ok (.invokestatic 52, 3) := by decide +kernel
theorem dX5_timesLessCosts_83 : decode cX5_timesLessCosts 83 = .ok (.i2l, 1) := by decide +kernel
theorem dX5_timesLessCosts_84 : decode cX5_timesLessCosts 84 = .ok (.lmul, 1) := by decide +kernel
theorem dX5_timesLessCosts_85 : decode cX5_timesLessCosts 85 = .ok (.lcmp, 1) := by decide +kernel
theorem dX5_timesLessCosts_86 : decode cX5_timesLessCosts 86 = .ok (.ifCond .eq 5, 3) := by decide +kernel
theorem dX5_timesLessCosts_89 : decode cX5_timesLessCosts 89 = .ok (.lconst 0, 1) := by decide +kernel
theorem dX5_timesLessCosts_90 : decode cX5_timesLessCosts 90 = .ok (.lreturn, 1) := by decide +kernel
theorem dX5_timesLessCosts_91 : decode cX5_timesLessCosts 91 = .ok (.iinc 4 1, 3) := by decide +kernel
theorem dX5_timesLessCosts_94 : decode cX5_timesLessCosts 94 = .ok (.goto (-33), 3) := by decide +kernel
theorem dX5_timesLessCosts_97 : decode cX5_timesLessCosts 97 = .ok (.lload_n 2, 1) := by decide +kernel
theorem dX5_timesLessCosts_98 : decode cX5_timesLessCosts 98 = .ok (.lreturn, 1) := by decide +kernel
theorem dX5_boundOfCost_0 : decode cX5_boundOfCost 0 = .ok (.aload_n 0, 1) := by decide +kernel
theorem dX5_boundOfCost_1 : decode cX5_boundOfCost 1 = .ok (.getfield 19, 3) := by decide +kernel
theorem dX5_boundOfCost_4 : decode cX5_boundOfCost 4 = .ok (.lconst 0, 1) := by decide +kernel
theorem dX5_boundOfCost_5 : decode cX5_boundOfCost 5 = .ok (.lcmp, 1) := by decide +kernel
theorem dX5_boundOfCost_6 : decode cX5_boundOfCost 6 = .ok (.ifCond .ne 10, 3) := by decide +kernel
theorem dX5_boundOfCost_9 : decode cX5_boundOfCost 9 = .ok (.aload_n 0, 1) := by decide +kernel
theorem dX5_boundOfCost_10 : decode cX5_boundOfCost 10 = .ok (.getfield 22, 3) := by decide +kernel
theorem dX5_boundOfCost_13 : decode cX5_boundOfCost 13 = .ok (.ifCond .eq 7, 3) := by decide +kernel
theorem dX5_boundOfCost_16 : decode cX5_boundOfCost 16 = .ok (.ldc2_w 58, 3) := by decide +kernel
theorem dX5_boundOfCost_19 : decode cX5_boundOfCost 19 = .ok (.lreturn, 1) := by decide +kernel
theorem dX5_boundOfCost_20 : decode cX5_boundOfCost 20 = .ok (.aload_n 0, 1) := by decide +kernel
theorem dX5_boundOfCost_21 : decode cX5_boundOfCost 21 = .ok (.aload_n 1, 1) := by decide +kernel
theorem dX5_boundOfCost_22 : decode cX5_boundOfCost 22 = .ok (.invokevirtual 60, 3) := by decide +kernel
theorem dX5_boundOfCost_25 : decode cX5_boundOfCost 25 = .ok (.lstore_n 2, 1) := by decide +kernel
theorem dX5_boundOfCost_26 : decode cX5_boundOfCost 26 = .ok (.lload_n 2, 1) := by decide +kernel
theorem dX5_boundOfCost_27 : decode cX5_boundOfCost 27 = .ok (.lconst 1, 1) := by decide +kernel
theorem dX5_boundOfCost_28 : decode cX5_boundOfCost 28 = .ok (.lcmp, 1) := by decide +kernel
theorem dX5_boundOfCost_29 : decode cX5_boundOfCost 29 = .ok (.ifCond .ge 9, 3) := by decide +kernel
theorem dX5_boundOfCost_32 : decode cX5_boundOfCost 32 = .ok (.ldc2_w 58, 3) := by decide +kernel
theorem dX5_boundOfCost_35 : decode cX5_boundOfCost 35 = .ok (.goto 12, 3) := by decide +kernel
theorem dX5_boundOfCost_38 : decode cX5_boundOfCost 38 = .ok (.aload_n 0, 1) := by decide +kernel
theorem dX5_boundOfCost_39 : decode cX5_boundOfCost 39 = .ok (.getfield 15, 3) := by decide +kernel
theorem dX5_boundOfCost_42 : decode cX5_boundOfCost 42 = .ok (.lload_n 2, 1) := by decide +kernel
theorem dX5_boundOfCost_43 : decode cX5_boundOfCost 43 = .ok (.invokestatic 64, 3) := by decide +kernel
theorem dX5_boundOfCost_46 : decode cX5_boundOfCost 46 = .ok (.lneg, 1) := by decide +kernel
theorem dX5_boundOfCost_47 : decode cX5_boundOfCost 47 = .ok (.lreturn, 1) := by decide +kernel
theorem dX6_init_0 : decode cX6_init 0 = .ok (.aload_n 0, 1) := by decide +kernel
theorem dX6_init_1 : decode cX6_init 1 = .ok (.invokespecial 3, 3) := by decide +kernel
theorem dX6_init_4 : decode cX6_init 4 = .ok (.aload_n 0, 1) := by decide +kernel
theorem dX6_init_5 : decode cX6_init 5 = .ok (.sipush 200, 3) := by decide +kernel
theorem dX6_init_8 : decode cX6_init 8 = .ok (.anewarray 9, 3) := by decide +kernel
theorem dX6_init_11 : decode cX6_init 11 = .ok (.putfield 11, 3) := by decide +kernel
theorem dX6_init_14 : decode cX6_init 14 = .ok (.aload_n 0, 1) := by decide +kernel
theorem dX6_init_15 : decode cX6_init 15 = .ok (.new 9, 3) := by decide +kernel
theorem dX6_init_18 : decode cX6_init 18 = .ok (.dup, 1) := by decide +kernel
theorem dX6_init_19 : decode cX6_init 19 = .ok (.invokespecial 17, 3) := by decide +kernel
theorem dX6_init_22 : decode cX6_init 22 = .ok (.putfield 18, 3) := by decide +kernel
theorem dX6_init_25 : decode cX6_init 25 = .ok (.aload_n 0, 1) := by decide +kernel
theorem dX6_init_26 : decode cX6_init 26 = .ok (.bipush 60, 2) := by decide +kernel
theorem dX6_init_28 : decode cX6_init 28 = .ok (.newarray .int, 2) := by decide +kernel
theorem dX6_init_30 : decode cX6_init 30 = .ok (.putfield 22, 3) := by decide +kernel
theorem dX6_init_33 : decode cX6_init 33 = .ok (.iconst 0, 1) := by decide +kernel
theorem dX6_init_34 : decode cX6_init 34 = .ok (.istore_n 1, 1) := by decide +kernel
theorem dX6_init_35 : decode cX6_init 35 = .ok (.iload_n 1, 1) := by decide +kernel
theorem dX6_init_36 : decode cX6_init 36 = .ok (.sipush 200, 3) := by decide +kernel
theorem dX6_init_39 : decode cX6_init 39 = .ok (.if_icmp .ge 22, 3) := by decide +kernel
theorem dX6_init_42 : decode cX6_init 42 = .ok (.aload_n 0, 1) := by decide +kernel
theorem dX6_init_43 : decode cX6_init 43 = .ok (.getfield 11, 3) := by decide +kernel
theorem dX6_init_46 : decode cX6_init 46 = .ok (.iload_n 1, 1) := by decide +kernel
theorem dX6_init_47 : decode cX6_init 47 = .ok (.new 9, 3) := by decide +kernel
theorem dX6_init_50 : decode cX6_init 50 = .ok (.dup, 1) := by decide +kernel
theorem dX6_init_51 : decode cX6_init 51 = .ok (.invokespecial 17, 3) := by decide +kernel
theorem dX6_init_54 : decode cX6_init 54 = .ok (.aastore, 1) := by decide +kernel
theorem dX6_init_55 : decode cX6_init 55 = .ok (.iinc 1 1, 3) := by decide +kernel
theorem dX6_init_58 : decode cX6_init 58 = .ok (.goto (-23), 3) := by decide +kernel
theorem dX6_init_61 : decode cX6_init 61 = .ok (.return_, 1) := by decide +kernel
theorem dX6_clear_0 : decode cX6_clear 0 = .ok (.aload_n 0, 1) := by decide +kernel
theorem dX6_clear_1 : decode cX6_clear 1 = .ok (.iconst 0, 1) := by decide +kernel
theorem dX6_clear_2 : decode cX6_clear 2 = .ok (.putfield 26, 3) := by decide +kernel
theorem dX6_clear_5 : decode cX6_clear 5 = .ok (.aload_n 0, 1) := by decide +kernel
theorem dX6_clear_6 : decode cX6_clear 6 = .ok (.iconst 0, 1) := by decide +kernel
theorem dX6_clear_7 : decode cX6_clear 7 = .ok (.putfield 30, 3) := by decide +kernel
theorem dX6_clear_10 : decode cX6_clear 10 = .ok (.return_, 1) := by decide +kernel
theorem dX6_has_0 : decode cX6_has 0 = .ok (.iload_n 1, 1) := by decide +kernel
theorem dX6_has_1 : decode cX6_has 1 = .ok (.ifCond .lt 22, 3) := by decide +kernel
theorem dX6_has_4 : decode cX6_has 4 = .ok (.iload_n 1, 1) := by decide +kernel
theorem dX6_has_5 : decode cX6_has 5 = .ok (.aload_n 0, 1) := by decide +kernel
theorem dX6_has_6 : decode cX6_has 6 = .ok (.getfield 26, 3) := by decide +kernel
theorem dX6_has_9 : decode cX6_has 9 = .ok (.if_icmp .ge 14, 3) := by decide +kernel
theorem dX6_has_12 : decode cX6_has 12 = .ok (.iload_n 1, 1) := by decide +kernel
theorem dX6_has_13 : decode cX6_has 13 = .ok (.sipush 200, 3) := by decide +kernel
theorem dX6_has_16 : decode cX6_has 16 = .ok (.if_icmp .ge 7, 3) := by decide +kernel
theorem dX6_has_19 : decode cX6_has 19 = .ok (.iconst 1, 1) := by decide +kernel
theorem dX6_has_20 : decode cX6_has 20 = .ok (.goto 4, 3) := by decide +kernel
theorem dX6_has_23 : decode cX6_has 23 = .ok (.iconst 0, 1) := by decide +kernel
theorem dX6_has_24 : decode cX6_has 24 = .ok (.ireturn, 1) := by decide +kernel
theorem dX6_at_0 : decode cX6_at 0 = .ok (.aload_n 0, 1) := by decide +kernel
theorem dX6_at_1 : decode cX6_at 1 = .ok (.iload_n 1, 1) := by decide +kernel
theorem dX6_at_2 : decode cX6_at 2 = .ok (.invokevirtual 33, 3) := by decide +kernel
theorem dX6_at_5 : decode cX6_at 5 = .ok (.ifCond .eq 12, 3) := by decide +kernel
theorem dX6_at_8 : decode cX6_at 8 = .ok (.aload_n 0, 1) := by decide +kernel
theorem dX6_at_9 : decode cX6_at 9 = .ok (.getfield 11, 3) := by decide +kernel
theorem dX6_at_12 : decode cX6_at 12 = .ok (.iload_n 1, 1) := by decide +kernel
theorem dX6_at_13 : decode cX6_at 13 = .ok (.aaload, 1) := by decide +kernel
theorem dX6_at_14 : decode cX6_at 14 = .ok (.goto 7, 3) := by decide +kernel
theorem dX6_at_17 : decode cX6_at 17 = .ok (.aload_n 0, 1) := by decide +kernel
theorem dX6_at_18 : decode cX6_at 18 = .ok (.getfield 18, 3) := by decide +kernel
theorem dX6_at_21 : decode cX6_at 21 = .ok (.areturn, 1) := by decide +kernel
theorem dX6_areFull_0 : decode cX6_areFull 0 = .ok (.aload_n 0, 1) := by decide +kernel
theorem dX6_areFull_1 : decode cX6_areFull 1 = .ok (.getfield 26, 3) := by decide +kernel
theorem dX6_areFull_4 : decode cX6_areFull 4 = .ok (.sipush 200, 3) := by decide +kernel
theorem dX6_areFull_7 : decode cX6_areFull 7 = .ok (.if_icmp .lt 7, 3) := by decide +kernel
theorem dX6_areFull_10 : decode cX6_areFull 10 = .ok (.iconst 1, 1) := by decide +kernel
theorem dX6_areFull_11 : decode cX6_areFull 11 = .ok (.goto 4, 3) := by decide +kernel
theorem dX6_areFull_14 : decode cX6_areFull 14 = .ok (.iconst 0, 1) := by decide +kernel
theorem dX6_areFull_15 : decode cX6_areFull 15 = .ok (.ireturn, 1) := by decide +kernel
theorem dX6_areBranchesFull_0 : decode cX6_areBranchesFull 0 = .ok (.aload_n 0, 1) := by decide +kernel
theorem dX6_areBranchesFull_1 : decode cX6_areBranchesFull 1 = .ok (.getfield 30, 3) := by decide +kernel
theorem dX6_areBranchesFull_4 : decode cX6_areBranchesFull 4 = .ok (.bipush 60, 2) := by decide +kernel
theorem dX6_areBranchesFull_6 : decode cX6_areBranchesFull 6 = .ok (.if_icmp .lt 7, 3) := by decide +kernel
theorem dX6_areBranchesFull_9 : decode cX6_areBranchesFull 9 = .ok (.iconst 1, 1) := by decide +kernel
theorem dX6_areBranchesFull_10 : decode cX6_areBranchesFull 10 = .ok (.goto 4, 3) := by decide +kernel
theorem dX6_areBranchesFull_13 : decode cX6_areBranchesFull 13 = .ok (.iconst 0, 1) := by decide +kernel
theorem dX6_areBranchesFull_14 : decode cX6_areBranchesFull 14 = .ok (.ireturn, 1) := by decide +kernel
theorem dX6_fresh_0 : decode cX6_fresh 0 = .ok (.aload_n 0, 1) := by decide +kernel
theorem dX6_fresh_1 : decode cX6_fresh 1 = .ok (.getfield 26, 3) := by decide +kernel
theorem dX6_fresh_4 : decode cX6_fresh 4 = .ok (.ifCond .lt 25, 3) := by decide +kernel
theorem dX6_fresh_7 : decode cX6_fresh 7 = .ok (.aload_n 0, 1) := by decide +kernel
theorem dX6_fresh_8 : decode cX6_fresh 8 = .ok (.getfield 26, 3) := by decide +kernel
theorem dX6_fresh_11 : decode cX6_fresh 11 = .ok (.sipush 200, 3) := by decide +kernel
theorem dX6_fresh_14 : decode cX6_fresh 14 = .ok (.if_icmp .ge 15, 3) := by decide +kernel
theorem dX6_fresh_17 : decode cX6_fresh 17 = .ok (.aload_n 0, 1) := by decide +kernel
theorem dX6_fresh_18 : decode cX6_fresh 18 = .ok (.getfield 11, 3) := by decide +kernel
theorem dX6_fresh_21 : decode cX6_fresh 21 = .ok (.aload_n 0, 1) := by decide +kernel
theorem dX6_fresh_22 : decode cX6_fresh 22 = .ok (.getfield 26, 3) := by decide +kernel
theorem dX6_fresh_25 : decode cX6_fresh 25 = .ok (.aaload, 1) := by decide +kernel
theorem dX6_fresh_26 : decode cX6_fresh 26 = .ok (.goto 7, 3) := by decide +kernel
theorem dX6_fresh_29 : decode cX6_fresh 29 = .ok (.aload_n 0, 1) := by decide +kernel
theorem dX6_fresh_30 : decode cX6_fresh 30 = .ok (.getfield 18, 3) := by decide +kernel
theorem dX6_fresh_33 : decode cX6_fresh 33 = .ok (.astore_n 1, 1) := by decide +kernel
theorem dX6_fresh_34 : decode cX6_fresh 34 = .ok (.aload_n 1, 1) := by decide +kernel
theorem dX6_fresh_35 : decode cX6_fresh 35 = .ok (.invokevirtual 37, 3) := by decide +kernel
theorem dX6_fresh_38 : decode cX6_fresh 38 = .ok (.aload_n 1, 1) := by decide +kernel
theorem dX6_fresh_39 : decode cX6_fresh 39 = .ok (.areturn, 1) := by decide +kernel
theorem dX6_keepFresh_0 : decode cX6_keepFresh 0 = .ok (.aload_n 0, 1) := by decide +kernel
theorem dX6_keepFresh_1 : decode cX6_keepFresh 1 = .ok (.getfield 26, 3) := by decide +kernel
theorem dX6_keepFresh_4 : decode cX6_keepFresh 4 = .ok (.ifCond .lt 10, 3) := by decide +kernel
theorem dX6_keepFresh_7 : decode cX6_keepFresh 7 = .ok (.aload_n 0, 1) := by decide +kernel
theorem dX6_keepFresh_8 : decode cX6_keepFresh 8 = .ok (.invokevirtual 40, 3) := by decide +kernel
theorem dX6_keepFresh_11 : decode cX6_keepFresh 11 = .ok (.ifCond .eq 4, 3) := by decide +kernel
theorem dX6_keepFresh_14 : decode cX6_keepFresh 14 = .ok (.return_, 1) := by decide +kernel
theorem dX6_keepFresh_15 : decode cX6_keepFresh 15 = .ok (.aload_n 0, 1) := by decide +kernel
theorem dX6_keepFresh_16 : decode cX6_keepFresh 16 = .ok (.getfield 11, 3) := by decide +kernel
theorem dX6_keepFresh_19 : decode cX6_keepFresh 19 = .ok (.aload_n 0, 1) := by decide +kernel
theorem dX6_keepFresh_20 : decode cX6_keepFresh 20 = .ok (.getfield 26, 3) := by decide +kernel
theorem dX6_keepFresh_23 : decode cX6_keepFresh 23 = .ok (.aaload, 1) := by decide +kernel
theorem dX6_keepFresh_24 : decode cX6_keepFresh 24 = .ok (.getfield 44, 3) := by decide +kernel
theorem dX6_keepFresh_27 : decode cX6_keepFresh 27 = .ok (.bipush 6, 2) := by decide +kernel
theorem dX6_keepFresh_29 : decode cX6_keepFresh 29 = .ok (.if_icmp .ne 58, 3) := by decide +kernel
theorem dX6_keepFresh_32 : decode cX6_keepFresh 32 = .ok (.aload_n 0, 1) := by decide +kernel
theorem dX6_keepFresh_33 : decode cX6_keepFresh 33 = .ok (.getfield 30, 3) := by decide +kernel
theorem dX6_keepFresh_36 : decode cX6_keepFresh 36 = .ok (.ifCond .lt 51, 3) := by decide +kernel
theorem dX6_keepFresh_39 : decode cX6_keepFresh 39 = .ok (.aload_n 0, 1) := by decide +kernel
theorem dX6_keepFresh_40 : decode cX6_keepFresh 40 = .ok (.invokevirtual 47, 3) := by decide +kernel
theorem dX6_keepFresh_43 : decode cX6_keepFresh 43 = .ok (.ifCond .ne 44, 3) := by decide +kernel
theorem dX6_keepFresh_46 : decode cX6_keepFresh 46 = .ok (.aload_n 0, 1) := by decide +kernel
theorem dX6_keepFresh_47 : decode cX6_keepFresh 47 = .ok (.getfield 11, 3) := by decide +kernel
theorem dX6_keepFresh_50 : decode cX6_keepFresh 50 = .ok (.aload_n 0, 1) := by decide +kernel
theorem dX6_keepFresh_51 : decode cX6_keepFresh 51 = .ok (.getfield 26, 3) := by decide +kernel
theorem dX6_keepFresh_54 : decode cX6_keepFresh 54 = .ok (.aaload, 1) := by decide +kernel
theorem dX6_keepFresh_55 : decode cX6_keepFresh 55 = .ok (.lconst 1, 1) := by decide +kernel
theorem dX6_keepFresh_56 : decode cX6_keepFresh 56 = .ok (.aload_n 0, 1) := by decide +kernel
theorem dX6_keepFresh_57 : decode cX6_keepFresh 57 = .ok (.getfield 30, 3) := by decide +kernel
theorem dX6_keepFresh_60 : decode cX6_keepFresh 60 = .ok (.lshl, 1) := by decide +kernel
theorem dX6_keepFresh_61 : decode cX6_keepFresh 61 = .ok (.putfield 50, 3) := by decide +kernel
theorem dX6_keepFresh_64 : decode cX6_keepFresh 64 = .ok (.aload_n 0, 1) := by decide +kernel
theorem dX6_keepFresh_65 : decode cX6_keepFresh 65 = .ok (.getfield 22, 3) := by decide +kernel
theorem dX6_keepFresh_68 : decode cX6_keepFresh 68 = .ok (.aload_n 0, 1) := by decide +kernel
theorem dX6_keepFresh_69 : decode cX6_keepFresh 69 = .ok (.getfield 30, 3) := by decide +kernel
theorem dX6_keepFresh_72 : decode cX6_keepFresh 72 = .ok (.aload_n 0, 1) := by decide +kernel
theorem dX6_keepFresh_73 : decode cX6_keepFresh 73 = .ok (.getfield 26, 3) := by decide +kernel
theorem dX6_keepFresh_76 : decode cX6_keepFresh 76 = .ok (.iastore, 1) := by decide +kernel
theorem dX6_keepFresh_77 : decode cX6_keepFresh 77 = .ok (.aload_n 0, 1) := by decide +kernel
theorem dX6_keepFresh_78 : decode cX6_keepFresh 78 = .ok (.dup, 1) := by decide +kernel
theorem dX6_keepFresh_79 : decode cX6_keepFresh 79 = .ok (.getfield 30, 3) := by decide +kernel
theorem dX6_keepFresh_82 : decode cX6_keepFresh 82 = .ok (.iconst 1, 1) := by decide +kernel
theorem dX6_keepFresh_83 : decode cX6_keepFresh 83 = .ok (.iadd, 1) := by decide +kernel
theorem dX6_keepFresh_84 : decode cX6_keepFresh 84 = .ok (.putfield 30, 3) := by decide +kernel
theorem dX6_keepFresh_87 : decode cX6_keepFresh 87 = .ok (.aload_n 0, 1) := by decide +kernel
theorem dX6_keepFresh_88 : decode cX6_keepFresh 88 = .ok (.dup, 1) := by decide +kernel
theorem dX6_keepFresh_89 : decode cX6_keepFresh 89 = .ok (.getfield 26, 3) := by decide +kernel
theorem dX6_keepFresh_92 : decode cX6_keepFresh 92 = .ok (.iconst 1, 1) := by decide +kernel
theorem dX6_keepFresh_93 : decode cX6_keepFresh 93 = .ok (.iadd, 1) := by decide +kernel
theorem dX6_keepFresh_94 : decode cX6_keepFresh 94 = .ok (.putfield 26, 3) := by decide +kernel
theorem dX6_keepFresh_97 : decode cX6_keepFresh 97 = .ok (.return_, 1) := by decide +kernel
theorem dX6_assumption_0 : decode cX6_assumption 0 = .ok (.aload_n 0, 1) := by decide +kernel
theorem dX6_assumption_1 : decode cX6_assumption 1 = .ok (.iload_n 1, 1) := by decide +kernel
theorem dX6_assumption_2 : decode cX6_assumption 2 = .ok (.invokevirtual 54, 3) := by decide +kernel
theorem dX6_assumption_5 : decode cX6_assumption 5 = .ok (.getfield 50, 3) := by decide +kernel
theorem dX6_assumption_8 : decode cX6_assumption 8 = .ok (.lstore_n 3, 1) := by decide +kernel
theorem dX6_assumption_9 : decode cX6_assumption 9 = .ok (.iconst 0, 1) := by decide +kernel
theorem dX6_assumption_10 : decode cX6_assumption 10 = .ok (.istore 5, 2) := by decide +kernel
theorem dX6_assumption_12 : decode cX6_assumption 12 = .ok (.iconst 0, 1) := by decide +kernel
theorem dX6_assumption_13 : decode cX6_assumption 13 = .ok (.istore 6, 2) := by decide +kernel
theorem dX6_assumption_15 : decode cX6_assumption 15 = .ok (.iload 6, 2) := by decide +kernel
theorem dX6_assumption_17 : decode cX6_assumption 17 = .ok (.bipush 60, 2) := by decide +kernel
theorem dX6_assumption_19 : decode cX6_assumption 19 = .ok (.if_icmp .ge 46, 3) := by decide +kernel
theorem dX6_assumption_22 : decode cX6_assumption 22 = .ok (.iload 6, 2) := by decide +kernel
theorem dX6_assumption_24 : decode cX6_assumption 24 = .ok (.aload_n 0, 1) := by decide +kernel
theorem dX6_assumption_25 : decode cX6_assumption 25 = .ok (.getfield 30, 3) := by decide +kernel
theorem dX6_assumption_28 : decode cX6_assumption 28 = .ok (.if_icmp .ge 37, 3) := by decide +kernel
theorem dX6_assumption_31 : decode cX6_assumption 31 = .ok (.lload_n 3, 1) := by decide +kernel
theorem dX6_assumption_32 : decode cX6_assumption 32 = .ok (.iload 6, 2) := by decide +kernel
theorem dX6_assumption_34 : decode cX6_assumption 34 = .ok (.lshr, 1) := by decide +kernel
theorem dX6_assumption_35 : decode cX6_assumption 35 = .ok (.lconst 1, 1) := by decide +kernel
theorem dX6_assumption_36 : decode cX6_assumption 36 = .ok (.land, 1) := by decide +kernel
theorem dX6_assumption_37 : decode cX6_assumption 37 = .ok (.lconst 0, 1) := by decide +kernel
theorem dX6_assumption_38 : decode cX6_assumption 38 = .ok (.lcmp, 1) := by decide +kernel
theorem dX6_assumption_39 : decode cX6_assumption 39 = .ok (.ifCond .eq 20, 3) := by decide +kernel
theorem dX6_assumption_42 : decode cX6_assumption 42 = .ok (.iload 5, 2) := by decide +kernel
theorem dX6_assumption_44 : decode cX6_assumption 44 = .ok (.iload_n 2, 1) := by decide +kernel
theorem dX6_assumption_45 : decode cX6_assumption 45 = .ok (.if_icmp .ne 11, 3) := by decide +kernel
theorem dX6_assumption_48 : decode cX6_assumption 48 = .ok (.aload_n 0, 1) := by decide +kernel
theorem dX6_assumption_49 : decode cX6_assumption 49 = .ok (.getfield 22, 3) := by decide +kernel
theorem dX6_assumption_52 : decode cX6_assumption 52 = .ok (.iload 6, 2) := by decide +kernel
theorem dX6_assumption_54 : decode cX6_assumption 54 = .ok (.iaload, 1) := by decide +kernel
theorem dX6_assumption_55 : decode cX6_assumption 55 = .ok (.ireturn, 1) := by decide +kernel
theorem dX6_assumption_56 : decode cX6_assumption 56 = .ok (.iinc 5 1, 3) := by decide +kernel
theorem dX6_assumption_59 : decode cX6_assumption 59 = .ok (.iinc 6 1, 3) := by decide +kernel
theorem dX6_assumption_62 : decode cX6_assumption 62 = .ok (.goto (-47), 3) := by decide +kernel
theorem dX6_assumption_65 : decode cX6_assumption 65 = .ok (.iconst (-1), 1) := by decide +kernel
theorem dX6_assumption_66 : decode cX6_assumption 66 = .ok (.ireturn, 1) := by decide +kernel
theorem dX6_keepsAssumptions_0 : decode cX6_keepsAssumptions 0 = .ok (.iconst 0, 1) := by decide +kernel
theorem dX6_keepsAssumptions_1 : decode cX6_keepsAssumptions 1 = .ok (.istore_n 3, 1) := by decide +kernel
theorem dX6_keepsAssumptions_2 : decode cX6_keepsAssumptions 2 = .ok (.iload_n 3, 1) := by decide +kernel
theorem dX6_keepsAssumptions_3 : decode cX6_keepsAssumptions 3 = .ok (.bipush 60, 2) := by decide +kernel
theorem dX6_keepsAssumptions_5 : decode cX6_keepsAssumptions 5 = .ok (.if_icmp .ge 49, 3) := by decide +kernel
theorem dX6_keepsAssumptions_8 : decode cX6_keepsAssumptions 8 = .ok (.iload_n 3, 1) := by decide +kernel
theorem dX6_keepsAssumptions_9 : decode cX6_keepsAssumptions 9 = .ok (.aload_n 0, 1) := by decide +kernel
theorem dX6_keepsAssumptions_10 : decode cX6_keepsAssumptions 10 = .ok (.getfield 30, 3) := by decide +kernel
theorem dX6_keepsAssumptions_13 : decode cX6_keepsAssumptions 13 = .ok (.if_icmp .ge 41, 3) := by decide +kernel
theorem dX6_keepsAssumptions_16 : decode cX6_keepsAssumptions 16 = .ok (.aload_n 1, 1) := by decide +kernel
theorem dX6_keepsAssumptions_17 : decode cX6_keepsAssumptions 17 = .ok (.getfield 50, 3) := by decide +kernel
theorem dX6_keepsAssumptions_20 : decode cX6_keepsAssumptions 20 = .ok (.iload_n 3, 1) := by decide +kernel
theorem dX6_keepsAssumptions_21 : decode cX6_keepsAssumptions 21 = .ok (.lshr, 1) := by decide +kernel
theorem dX6_keepsAssumptions_22 : decode cX6_keepsAssumptions 22 = .ok (.lconst 1, 1) := by decide +kernel
