theorem dX3_init_0 : decode cX3_init 0 = .ok (.aload_n 0, 1) := by decide +kernel
theorem dX3_init_1 : decode cX3_init 1 = .ok (.invokespecial 3, 3) := by decide +kernel
theorem dX3_init_4 : decode cX3_init 4 = .ok (.aload_n 0, 1) := by decide +kernel
theorem dX3_init_5 : decode cX3_init 5 = .ok (.new 9, 3) := by decide +kernel
theorem dX3_init_8 : decode cX3_init 8 = .ok (.dup, 1) := by decide +kernel
theorem dX3_init_9 : decode cX3_init 9 = .ok (.invokespecial 11, 3) := by decide +kernel
theorem dX3_init_12 : decode cX3_init 12 = .ok (.putfield 12, 3) := by decide +kernel
theorem dX3_init_15 : decode cX3_init 15 = .ok (.aload_n 0, 1) := by decide +kernel
theorem dX3_init_16 : decode cX3_init 16 = .ok (.new 9, 3) := by decide +kernel
theorem dX3_init_19 : decode cX3_init 19 = .ok (.dup, 1) := by decide +kernel
theorem dX3_init_20 : decode cX3_init 20 = .ok (.invokespecial 11, 3) := by decide +kernel
theorem dX3_init_23 : decode cX3_init 23 = .ok (.putfield 16, 3) := by decide +kernel
theorem dX3_init_26 : decode cX3_init 26 = .ok (.aload_n 0, 1) := by decide +kernel
theorem dX3_init_27 : decode cX3_init 27 = .ok (.new 9, 3) := by decide +kernel
theorem dX3_init_30 : decode cX3_init 30 = .ok (.dup, 1) := by decide +kernel
theorem dX3_init_31 : decode cX3_init 31 = .ok (.invokespecial 11, 3) := by decide +kernel
theorem dX3_init_34 : decode cX3_init 34 = .ok (.putfield 19, 3) := by decide +kernel
theorem dX3_init_37 : decode cX3_init 37 = .ok (.aload_n 0, 1) := by decide +kernel
theorem dX3_init_38 : decode cX3_init 38 = .ok (.iconst 0, 1) := by decide +kernel
theorem dX3_init_39 : decode cX3_init 39 = .ok (.putfield 22, 3) := by decide +kernel
theorem dX3_init_42 : decode cX3_init 42 = .ok (.aload_n 0, 1) := by decide +kernel
theorem dX3_init_43 : decode cX3_init 43 = .ok (.new 26, 3) := by decide +kernel
theorem dX3_init_46 : decode cX3_init 46 = .ok (.dup, 1) := by decide +kernel
theorem dX3_init_47 : decode cX3_init 47 = .ok (.invokespecial 28, 3) := by decide +kernel
theorem dX3_init_50 : decode cX3_init 50 = .ok (.putfield 29, 3) := by decide +kernel
theorem dX3_init_53 : decode cX3_init 53 = .ok (.aload_n 0, 1) := by decide +kernel
theorem dX3_init_54 : decode cX3_init 54 = .ok (.bipush 12, 2) := by decide +kernel
theorem dX3_init_56 : decode cX3_init 56 = .ok (.newarray .int, 2) := by decide +kernel
theorem dX3_init_58 : decode cX3_init 58 = .ok (.putfield 33, 3) := by decide +kernel
theorem dX3_init_61 : decode cX3_init 61 = .ok (.aload_n 0, 1) := by decide +kernel
theorem dX3_init_62 : decode cX3_init 62 = .ok (.iconst 0, 1) := by decide +kernel
theorem dX3_init_63 : decode cX3_init 63 = .ok (.putfield 37, 3) := by decide +kernel
theorem dX3_init_66 : decode cX3_init 66 = .ok (.aload_n 0, 1) := by decide +kernel
theorem dX3_init_67 : decode cX3_init 67 = .ok (.bipush 6, 2) := by decide +kernel
theorem dX3_init_69 : decode cX3_init 69 = .ok (.newarray .int, 2) := by decide +kernel
theorem dX3_init_71 : decode cX3_init 71 = .ok (.putfield 41, 3) := by decide +kernel
theorem dX3_init_74 : decode cX3_init 74 = .ok (.return_, 1) := by decide +kernel
theorem dX3_letter_0 : decode cX3_letter 0 = .ok (.iload_n 1, 1) := by decide +kernel
theorem dX3_letter_1 : decode cX3_letter 1 = .ok (.iconst 0, 1) := by decide +kernel
theorem dX3_letter_2 : decode cX3_letter 2 = .ok (.sipush 255, 3) := by decide +kernel
theorem dX3_letter_5 : decode cX3_letter 5 = .ok (.invokestatic 44, 3) := by decide +kernel
theorem dX3_letter_8 : decode cX3_letter 8 = .ok (.istore_n 2, 1) := by decide +kernel
theorem dX3_letter_9 : decode cX3_letter 9 = .ok (.iload_n 2, 1) := by decide +kernel
theorem dX3_letter_10 : decode cX3_letter 10 = .ok (.ifCond .ne 18, 3) := by decide +kernel
theorem dX3_letter_13 : decode cX3_letter 13 = .ok (.aload_n 0, 1) := by decide +kernel
theorem dX3_letter_14 : decode cX3_letter 14 = .ok (.getfield 29, 3) := by decide +kernel
theorem dX3_letter_17 : decode cX3_letter 17 = .ok (.getfield 48, 3) := by decide +kernel
theorem dX3_letter_20 : decode cX3_letter 20 = .ok (.bipush 96, 2) := by decide +kernel
theorem dX3_letter_22 : decode cX3_letter 22 = .ok (.if_icmp .lt 6, 3) := by decide +kernel
theorem dX3_letter_25 : decode cX3_letter 25 = .ok (.bipush (-6), 2) := by decide +kernel
theorem dX3_letter_27 : decode cX3_letter 27 = .ok (.istore_n 2, 1) := by decide +kernel
theorem dX3_letter_28 : decode cX3_letter 28 = .ok (.iload_n 2, 1) := by decide +kernel
theorem dX3_letter_29 : decode cX3_letter 29 = .ok (.ifCond .eq 9, 3) := by decide +kernel
theorem dX3_letter_32 : decode cX3_letter 32 = .ok (.aload_n 0, 1) := by decide +kernel
theorem dX3_letter_33 : decode cX3_letter 33 = .ok (.iload_n 2, 1) := by decide +kernel
theorem dX3_letter_34 : decode cX3_letter 34 = .ok (.invokevirtual 51, 3) := by decide +kernel
theorem dX3_letter_37 : decode cX3_letter 37 = .ok (.ireturn, 1) := by decide +kernel
theorem dX3_letter_38 : decode cX3_letter 38 = .ok (.aload_n 0, 1) := by decide +kernel
theorem dX3_letter_39 : decode cX3_letter 39 = .ok (.getfield 29, 3) := by decide +kernel
theorem dX3_letter_42 : decode cX3_letter 42 = .ok (.iload_n 1, 1) := by decide +kernel
theorem dX3_letter_43 : decode cX3_letter 43 = .ok (.invokevirtual 55, 3) := by decide +kernel
theorem dX3_letter_46 : decode cX3_letter 46 = .ok (.aload_n 0, 1) := by decide +kernel
theorem dX3_letter_47 : decode cX3_letter 47 = .ok (.getfield 29, 3) := by decide +kernel
theorem dX3_letter_50 : decode cX3_letter 50 = .ok (.getfield 48, 3) := by decide +kernel
theorem dX3_letter_53 : decode cX3_letter 53 = .ok (.ireturn, 1) := by decide +kernel
theorem dX3_gorge_0 : decode cX3_gorge 0 = .ok (.aload_n 0, 1) := by decide +kernel
theorem dX3_gorge_1 : decode cX3_gorge 1 = .ok (.getfield 29, 3) := by decide +kernel
theorem dX3_gorge_4 : decode cX3_gorge 4 = .ok (.invokevirtual 59, 3) := by decide +kernel
theorem dX3_gorge_7 : decode cX3_gorge 7 = .ok (.istore_n 1, 1) := by decide +kernel
theorem dX3_gorge_8 : decode cX3_gorge 8 = .ok (.iload_n 1, 1) := by decide +kernel
theorem dX3_gorge_9 : decode cX3_gorge 9 = .ok (.bipush (-9), 2) := by decide +kernel
theorem dX3_gorge_11 : decode cX3_gorge 11 = .ok (.if_icmp .ne 27, 3) := by decide +kernel
theorem dX3_gorge_14 : decode cX3_gorge 14 = .ok (.aload_n 0, 1) := by decide +kernel
theorem dX3_gorge_15 : decode cX3_gorge 15 = .ok (.getfield 29, 3) := by decide +kernel
theorem dX3_gorge_18 : decode cX3_gorge 18 = .ok (.aload_n 0, 1) := by decide +kernel
theorem dX3_gorge_19 : decode cX3_gorge 19 = .ok (.getfield 12, 3) := by decide +kernel
theorem dX3_gorge_22 : decode cX3_gorge 22 = .ok (.getfield 63, 3) := by decide +kernel
theorem dX3_gorge_25 : decode cX3_gorge 25 = .ok (.aload_n 0, 1) := by decide +kernel
theorem dX3_gorge_26 : decode cX3_gorge 26 = .ok (.getfield 12, 3) := by decide +kernel
theorem dX3_gorge_29 : decode cX3_gorge 29 = .ok (.getfield 66, 3) := by decide +kernel
theorem dX3_gorge_32 : decode cX3_gorge 32 = .ok (.invokevirtual 69, 3) := by decide +kernel
theorem dX3_gorge_35 : decode cX3_gorge 35 = .ok (.goto 5, 3) := by decide +kernel
theorem dX3_gorge_38 : decode cX3_gorge 38 = .ok (.bipush (-9), 2) := by decide +kernel
theorem dX3_gorge_40 : decode cX3_gorge 40 = .ok (.istore_n 2, 1) := by decide +kernel
theorem dX3_gorge_41 : decode cX3_gorge 41 = .ok (.iload_n 1, 1) := by decide +kernel
theorem dX3_gorge_42 : decode cX3_gorge 42 = .ok (.bipush (-9), 2) := by decide +kernel
theorem dX3_gorge_44 : decode cX3_gorge 44 = .ok (.if_icmp .eq 12, 3) := by decide +kernel
theorem dX3_gorge_47 : decode cX3_gorge 47 = .ok (.sipush (-1000), 3) := by decide +kernel
theorem dX3_gorge_50 : decode cX3_gorge 50 = .ok (.iload_n 1, 1) := by decide +kernel
theorem dX3_gorge_51 : decode cX3_gorge 51 = .ok (.isub, 1) := by decide +kernel
theorem dX3_gorge_52 : decode cX3_gorge 52 = .ok (.istore_n 3, 1) := by decide +kernel
theorem dX3_gorge_53 : decode cX3_gorge 53 = .ok (.goto 30, 3) := by decide +kernel
theorem dX3_gorge_56 : decode cX3_gorge 56 = .ok (.iload_n 2, 1) := by decide +kernel
theorem dX3_gorge_57 : decode cX3_gorge 57 = .ok (.bipush (-9), 2) := by decide +kernel
theorem dX3_gorge_59 : decode cX3_gorge 59 = .ok (.if_icmp .eq 12, 3) := by decide +kernel
theorem dX3_gorge_62 : decode cX3_gorge 62 = .ok (.sipush (-2000), 3) := by decide +kernel
theorem dX3_gorge_65 : decode cX3_gorge 65 = .ok (.iload_n 2, 1) := by decide +kernel
theorem dX3_gorge_66 : decode cX3_gorge 66 = .ok (.isub, 1) := by decide +kernel
theorem dX3_gorge_67 : decode cX3_gorge 67 = .ok (.istore_n 3, 1) := by decide +kernel
theorem dX3_gorge_68 : decode cX3_gorge 68 = .ok (.goto 15, 3) := by decide +kernel
theorem dX3_gorge_71 : decode cX3_gorge 71 = .ok (.aload_n 0, 1) := by decide +kernel
theorem dX3_gorge_72 : decode cX3_gorge 72 = .ok (.getfield 29, 3) := by decide +kernel
theorem dX3_gorge_75 : decode cX3_gorge 75 = .ok (.aload_n 0, 1) := by decide +kernel
theorem dX3_gorge_76 : decode cX3_gorge 76 = .ok (.getfield 12, 3) := by decide +kernel
theorem dX3_gorge_79 : decode cX3_gorge 79 = .ok (.invokevirtual 73, 3) := by decide +kernel
theorem dX3_gorge_82 : decode cX3_gorge 82 = .ok (.istore_n 3, 1) := by decide +kernel
theorem dX3_gorge_83 : decode cX3_gorge 83 = .ok (.aload_n 0, 1) := by decide +kernel
theorem dX3_gorge_84 : decode cX3_gorge 84 = .ok (.getfield 29, 3) := by decide +kernel
theorem dX3_gorge_87 : decode cX3_gorge 87 = .ok (.iconst 0, 1) := by decide +kernel
theorem dX3_gorge_88 : decode cX3_gorge 88 = .ok (.putfield 48, 3) := by decide +kernel
theorem dX3_gorge_91 : decode cX3_gorge 91 = .ok (.iload_n 3, 1) := by decide +kernel
theorem dX3_gorge_92 : decode cX3_gorge 92 = .ok (.ireturn, 1) := by decide +kernel
theorem dX3_caller_0 : decode cX3_caller 0 = .ok (.aload_n 0, 1) := by decide +kernel
theorem dX3_caller_1 : decode cX3_caller 1 = .ok (.iload_n 1, 1) := by decide +kernel
theorem dX3_caller_2 : decode cX3_caller 2 = .ok (.invokevirtual 77, 3) := by decide +kernel
theorem dX3_caller_5 : decode cX3_caller 5 = .ok (.iload_n 2, 1) := by decide +kernel
theorem dX3_caller_6 : decode cX3_caller 6 = .ok (.iconst 4, 1) := by decide +kernel
theorem dX3_caller_7 : decode cX3_caller 7 = .ok (.invokestatic 80, 3) := by decide +kernel
theorem dX3_caller_10 : decode cX3_caller 10 = .ok (.invokestatic 83, 3) := by decide +kernel
theorem dX3_caller_13 : decode cX3_caller 13 = .ok (.istore_n 3, 1) := by decide +kernel
theorem dX3_caller_14 : decode cX3_caller 14 = .ok (.iload_n 3, 1) := by decide +kernel
theorem dX3_caller_15 : decode cX3_caller 15 = .ok (.ifCond .eq 9, 3) := by decide +kernel
theorem dX3_caller_18 : decode cX3_caller 18 = .ok (.aload_n 0, 1) := by decide +kernel
theorem dX3_caller_19 : decode cX3_caller 19 = .ok (.iload_n 3, 1) := by decide +kernel
theorem dX3_caller_20 : decode cX3_caller 20 = .ok (.invokevirtual 51, 3) := by decide +kernel
theorem dX3_caller_23 : decode cX3_caller 23 = .ok (.ireturn, 1) := by decide +kernel
theorem dX3_caller_24 : decode cX3_caller 24 = .ok (.iload_n 2, 1) := by decide +kernel
theorem dX3_caller_25 : decode cX3_caller 25 = .ok (.tableswitch 79 0 3 #[31, 43, 55, 67], 31) := by decide +kernel
theorem dX3_caller_56 : decode cX3_caller 56 = .ok (.aload_n 0, 1) := by decide +kernel
theorem dX3_caller_57 : decode cX3_caller 57 = .ok (.getfield 12, 3) := by decide +kernel
theorem dX3_caller_60 : decode cX3_caller 60 = .ok (.getfield 86, 3) := by decide +kernel
theorem dX3_caller_63 : decode cX3_caller 63 = .ok (.iload_n 1, 1) := by decide +kernel
theorem dX3_caller_64 : decode cX3_caller 64 = .ok (.invokestatic 89, 3) := by decide +kernel
theorem dX3_caller_67 : decode cX3_caller 67 = .ok (.ireturn, 1) := by decide +kernel
theorem dX3_caller_68 : decode cX3_caller 68 = .ok (.aload_n 0, 1) := by decide +kernel
theorem dX3_caller_69 : decode cX3_caller 69 = .ok (.getfield 12, 3) := by decide +kernel
theorem dX3_caller_72 : decode cX3_caller 72 = .ok (.getfield 93, 3) := by decide +kernel
theorem dX3_caller_75 : decode cX3_caller 75 = .ok (.iload_n 1, 1) := by decide +kernel
theorem dX3_caller_76 : decode cX3_caller 76 = .ok (.invokestatic 89, 3) := by decide +kernel
theorem dX3_caller_79 : decode cX3_caller 79 = .ok (.ireturn, 1) := by decide +kernel
theorem dX3_caller_80 : decode cX3_caller 80 = .ok (.aload_n 0, 1) := by decide +kernel
theorem dX3_caller_81 : decode cX3_caller 81 = .ok (.getfield 12, 3) := by decide +kernel
theorem dX3_caller_84 : decode cX3_caller 84 = .ok (.getfield 96, 3) := by decide +kernel
theorem dX3_caller_87 : decode cX3_caller 87 = .ok (.iload_n 1, 1) := by decide +kernel
theorem dX3_caller_88 : decode cX3_caller 88 = .ok (.invokestatic 89, 3) := by decide +kernel
theorem dX3_caller_91 : decode cX3_caller 91 = .ok (.ireturn, 1) := by decide +kernel
theorem dX3_caller_92 : decode cX3_caller 92 = .ok (.aload_n 0, 1) := by decide +kernel
theorem dX3_caller_93 : decode cX3_caller 93 = .ok (.getfield 12, 3) := by decide +kernel
theorem dX3_caller_96 : decode cX3_caller 96 = .ok (.getfield 99, 3) := by decide +kernel
theorem dX3_caller_99 : decode cX3_caller 99 = .ok (.iload_n 1, 1) := by decide +kernel
theorem dX3_caller_100 : decode cX3_caller 100 = .ok (.invokestatic 89, 3) := by decide +kernel
theorem dX3_caller_103 : decode cX3_caller 103 = .ok (.ireturn, 1) := by decide +kernel
theorem dX3_caller_104 : decode cX3_caller 104 = .ok (.aload_n 0, 1) := by decide +kernel
theorem dX3_caller_105 : decode cX3_caller 105 = .ok (.getfield 12, 3) := by decide +kernel
theorem dX3_caller_108 : decode cX3_caller 108 = .ok (.getfield 102, 3) := by decide +kernel
theorem dX3_caller_111 : decode cX3_caller 111 = .ok (.iload_n 1, 1) := by decide +kernel
theorem dX3_caller_112 : decode cX3_caller 112 = .ok (.invokestatic 89, 3) := by decide +kernel
theorem dX3_caller_115 : decode cX3_caller 115 = .ok (.ireturn, 1) := by decide +kernel
theorem dX3_known_0 : decode cX3_known 0 = .ok (.iload_n 1, 1) := by decide +kernel
theorem dX3_known_1 : decode cX3_known 1 = .ok (.invokestatic 105, 3) := by decide +kernel
theorem dX3_known_4 : decode cX3_known 4 = .ok (.istore_n 2, 1) := by decide +kernel
theorem dX3_known_5 : decode cX3_known 5 = .ok (.iload_n 2, 1) := by decide +kernel
theorem dX3_known_6 : decode cX3_known 6 = .ok (.ifCond .eq 11, 3) := by decide +kernel
theorem dX3_known_9 : decode cX3_known 9 = .ok (.aload_n 0, 1) := by decide +kernel
theorem dX3_known_10 : decode cX3_known 10 = .ok (.iload_n 2, 1) := by decide +kernel
theorem dX3_known_11 : decode cX3_known 11 = .ok (.invokevirtual 51, 3) := by decide +kernel
theorem dX3_known_14 : decode cX3_known 14 = .ok (.goto 14, 3) := by decide +kernel
theorem dX3_known_17 : decode cX3_known 17 = .ok (.aload_n 0, 1) := by decide +kernel
theorem dX3_known_18 : decode cX3_known 18 = .ok (.getfield 12, 3) := by decide +kernel
theorem dX3_known_21 : decode cX3_known 21 = .ok (.getfield 108, 3) := by decide +kernel
theorem dX3_known_24 : decode cX3_known 24 = .ok (.iload_n 1, 1) := by decide +kernel
theorem dX3_known_25 : decode cX3_known 25 = .ok (.invokestatic 89, 3) := by decide +kernel
theorem dX3_known_28 : decode cX3_known 28 = .ok (.ireturn, 1) := by decide +kernel
theorem dX3_learn_0 : decode cX3_learn 0 = .ok (.iload_n 1, 1) := by decide +kernel
theorem dX3_learn_1 : decode cX3_learn 1 = .ok (.invokestatic 105, 3) := by decide +kernel
theorem dX3_learn_4 : decode cX3_learn 4 = .ok (.iload_n 2, 1) := by decide +kernel
theorem dX3_learn_5 : decode cX3_learn 5 = .ok (.iconst 0, 1) := by decide +kernel
theorem dX3_learn_6 : decode cX3_learn 6 = .ok (.bipush 20, 2) := by decide +kernel
theorem dX3_learn_8 : decode cX3_learn 8 = .ok (.invokestatic 44, 3) := by decide +kernel
theorem dX3_learn_11 : decode cX3_learn 11 = .ok (.invokestatic 83, 3) := by decide +kernel
theorem dX3_learn_14 : decode cX3_learn 14 = .ok (.istore_n 3, 1) := by decide +kernel
theorem dX3_learn_15 : decode cX3_learn 15 = .ok (.iload_n 3, 1) := by decide +kernel
theorem dX3_learn_16 : decode cX3_learn 16 = .ok (.ifCond .eq 9, 3) := by decide +kernel
theorem dX3_learn_19 : decode cX3_learn 19 = .ok (.aload_n 0, 1) := by decide +kernel
theorem dX3_learn_20 : decode cX3_learn 20 = .ok (.iload_n 3, 1) := by decide +kernel
theorem dX3_learn_21 : decode cX3_learn 21 = .ok (.invokevirtual 51, 3) := by decide +kernel
theorem dX3_learn_24 : decode cX3_learn 24 = .ok (.ireturn, 1) := by decide +kernel
theorem dX3_learn_25 : decode cX3_learn 25 = .ok (.aload_n 0, 1) := by decide +kernel
theorem dX3_learn_26 : decode cX3_learn 26 = .ok (.getfield 12, 3) := by decide +kernel
theorem dX3_learn_29 : decode cX3_learn 29 = .ok (.getfield 108, 3) := by decide +kernel
theorem dX3_learn_32 : decode cX3_learn 32 = .ok (.iload_n 1, 1) := by decide +kernel
theorem dX3_learn_33 : decode cX3_learn 33 = .ok (.invokestatic 89, 3) := by decide +kernel
theorem dX3_learn_36 : decode cX3_learn 36 = .ok (.istore 4, 2) := by decide +kernel
theorem dX3_learn_38 : decode cX3_learn 38 = .ok (.aload_n 0, 1) := by decide +kernel
theorem dX3_learn_39 : decode cX3_learn 39 = .ok (.getfield 12, 3) := by decide +kernel
theorem dX3_learn_42 : decode cX3_learn 42 = .ok (.getfield 108, 3) := by decide +kernel
theorem dX3_learn_45 : decode cX3_learn 45 = .ok (.iload_n 1, 1) := by decide +kernel
theorem dX3_learn_46 : decode cX3_learn 46 = .ok (.iload_n 2, 1) := by decide +kernel
theorem dX3_learn_47 : decode cX3_learn 47 = .ok (.invokestatic 111, 3) := by decide +kernel
theorem dX3_learn_50 : decode cX3_learn 50 = .ok (.iload 4, 2) := by decide +kernel
theorem dX3_learn_52 : decode cX3_learn 52 = .ok (.ireturn, 1) := by decide +kernel
theorem dX3_set_0 : decode cX3_set 0 = .ok (.iload_n 1, 1) := by decide +kernel
theorem dX3_set_1 : decode cX3_set 1 = .ok (.iconst 2, 1) := by decide +kernel
theorem dX3_set_2 : decode cX3_set 2 = .ok (.invokestatic 80, 3) := by decide +kernel
theorem dX3_set_5 : decode cX3_set 5 = .ok (.iload_n 1, 1) := by decide +kernel
theorem dX3_set_6 : decode cX3_set 6 = .ok (.iload_n 2, 1) := by decide +kernel
theorem dX3_set_7 : decode cX3_set 7 = .ok (.invokestatic 115, 3) := by decide +kernel
theorem dX3_set_10 : decode cX3_set 10 = .ok (.invokestatic 83, 3) := by decide +kernel
theorem dX3_set_13 : decode cX3_set 13 = .ok (.istore_n 3, 1) := by decide +kernel
theorem dX3_set_14 : decode cX3_set 14 = .ok (.iload_n 3, 1) := by decide +kernel
theorem dX3_set_15 : decode cX3_set 15 = .ok (.ifCond .eq 9, 3) := by decide +kernel
theorem dX3_set_18 : decode cX3_set 18 = .ok (.aload_n 0, 1) := by decide +kernel
theorem dX3_set_19 : decode cX3_set 19 = .ok (.iload_n 3, 1) := by decide +kernel
theorem dX3_set_20 : decode cX3_set 20 = .ok (.invokevirtual 51, 3) := by decide +kernel
theorem dX3_set_23 : decode cX3_set 23 = .ok (.ireturn, 1) := by decide +kernel
theorem dX3_set_24 : decode cX3_set 24 = .ok (.iload_n 1, 1) := by decide +kernel
theorem dX3_set_25 : decode cX3_set 25 = .ok (.ifCond .ne 23, 3) := by decide +kernel
theorem dX3_set_28 : decode cX3_set 28 = .ok (.aload_n 0, 1) := by decide +kernel
theorem dX3_set_29 : decode cX3_set 29 = .ok (.getfield 12, 3) := by decide +kernel
theorem dX3_set_32 : decode cX3_set 32 = .ok (.getfield 118, 3) := by decide +kernel
theorem dX3_set_35 : decode cX3_set 35 = .ok (.istore 4, 2) := by decide +kernel
theorem dX3_set_37 : decode cX3_set 37 = .ok (.aload_n 0, 1) := by decide +kernel
theorem dX3_set_38 : decode cX3_set 38 = .ok (.getfield 12, 3) := by decide +kernel
theorem dX3_set_41 : decode cX3_set 41 = .ok (.iload_n 2, 1) := by decide +kernel
theorem dX3_set_42 : decode cX3_set 42 = .ok (.putfield 118, 3) := by decide +kernel
theorem dX3_set_45 : decode cX3_set 45 = .ok (.goto 45, 3) := by decide +kernel
theorem dX3_set_48 : decode cX3_set 48 = .ok (.iload_n 1, 1) := by decide +kernel
theorem dX3_set_49 : decode cX3_set 49 = .ok (.iconst 1, 1) := by decide +kernel
theorem dX3_set_50 : decode cX3_set 50 = .ok (.if_icmp .ne 23, 3) := by decide +kernel
theorem dX3_set_53 : decode cX3_set 53 = .ok (.aload_n 0, 1) := by decide +kernel
theorem dX3_set_54 : decode cX3_set 54 = .ok (.getfield 12, 3) := by decide +kernel
theorem dX3_set_57 : decode cX3_set 57 = .ok (.getfield 121, 3) := by decide +kernel
theorem dX3_set_60 : decode cX3_set 60 = .ok (.istore 4, 2) := by decide +kernel
theorem dX3_set_62 : decode cX3_set 62 = .ok (.aload_n 0, 1) := by decide +kernel
theorem dX3_set_63 : decode cX3_set 63 = .ok (.getfield 12, 3) := by decide +kernel
theorem dX3_set_66 : decode cX3_set 66 = .ok (.iload_n 2, 1) := by decide +kernel
theorem dX3_set_67 : decode cX3_set 67 = .ok (.putfield 121, 3) := by decide +kernel
theorem dX3_set_70 : decode cX3_set 70 = .ok (.goto 20, 3) := by decide +kernel
theorem dX3_set_73 : decode cX3_set 73 = .ok (.aload_n 0, 1) := by decide +kernel
theorem dX3_set_74 : decode cX3_set 74 = .ok (.getfield 12, 3) := by decide +kernel
theorem dX3_set_77 : decode cX3_set 77 = .ok (.getfield 124, 3) := by decide +kernel
theorem dX3_set_80 : decode cX3_set 80 = .ok (.istore 4, 2) := by decide +kernel
theorem dX3_set_82 : decode cX3_set 82 = .ok (.aload_n 0, 1) := by decide +kernel
theorem dX3_set_83 : decode cX3_set 83 = .ok (.getfield 12, 3) := by decide +kernel
theorem dX3_set_86 : decode cX3_set 86 = .ok (.iload_n 2, 1) := by decide +kernel
theorem dX3_set_87 : decode cX3_set 87 = .ok (.putfield 124, 3) := by decide +kernel
theorem dX3_set_90 : decode cX3_set 90 = .ok (.iload 4, 2) := by decide +kernel
theorem dX3_set_92 : decode cX3_set 92 = .ok (.ireturn, 1) := by decide +kernel
theorem dX3_hour_0 : decode cX3_hour 0 = .ok (.aload_n 0, 1) := by decide +kernel
theorem dX3_hour_1 : decode cX3_hour 1 = .ok (.iload_n 1, 1) := by decide +kernel
theorem dX3_hour_2 : decode cX3_hour 2 = .ok (.invokevirtual 77, 3) := by decide +kernel
theorem dX3_hour_5 : decode cX3_hour 5 = .ok (.iload_n 2, 1) := by decide +kernel
theorem dX3_hour_6 : decode cX3_hour 6 = .ok (.iconst 0, 1) := by decide +kernel
theorem dX3_hour_7 : decode cX3_hour 7 = .ok (.bipush 23, 2) := by decide +kernel
theorem dX3_hour_9 : decode cX3_hour 9 = .ok (.invokestatic 44, 3) := by decide +kernel
theorem dX3_hour_12 : decode cX3_hour 12 = .ok (.invokestatic 83, 3) := by decide +kernel
theorem dX3_hour_15 : decode cX3_hour 15 = .ok (.istore_n 3, 1) := by decide +kernel
theorem dX3_hour_16 : decode cX3_hour 16 = .ok (.iload_n 3, 1) := by decide +kernel
theorem dX3_hour_17 : decode cX3_hour 17 = .ok (.ifCond .eq 9, 3) := by decide +kernel
theorem dX3_hour_20 : decode cX3_hour 20 = .ok (.aload_n 0, 1) := by decide +kernel
theorem dX3_hour_21 : decode cX3_hour 21 = .ok (.iload_n 3, 1) := by decide +kernel
theorem dX3_hour_22 : decode cX3_hour 22 = .ok (.invokevirtual 51, 3) := by decide +kernel
theorem dX3_hour_25 : decode cX3_hour 25 = .ok (.ireturn, 1) := by decide +kernel
theorem dX3_hour_26 : decode cX3_hour 26 = .ok (.aload_n 0, 1) := by decide +kernel
theorem dX3_hour_27 : decode cX3_hour 27 = .ok (.getfield 12, 3) := by decide +kernel
theorem dX3_hour_30 : decode cX3_hour 30 = .ok (.getfield 102, 3) := by decide +kernel
theorem dX3_hour_33 : decode cX3_hour 33 = .ok (.iload_n 1, 1) := by decide +kernel
theorem dX3_hour_34 : decode cX3_hour 34 = .ok (.invokestatic 89, 3) := by decide +kernel
theorem dX3_hour_37 : decode cX3_hour 37 = .ok (.istore 4, 2) := by decide +kernel
theorem dX3_hour_39 : decode cX3_hour 39 = .ok (.aload_n 0, 1) := by decide +kernel
theorem dX3_hour_40 : decode cX3_hour 40 = .ok (.getfield 12, 3) := by decide +kernel
theorem dX3_hour_43 : decode cX3_hour 43 = .ok (.iload_n 1, 1) := by decide +kernel
theorem dX3_hour_44 : decode cX3_hour 44 = .ok (.iload_n 2, 1) := by decide +kernel
theorem dX3_hour_45 : decode cX3_hour 45 = .ok (.invokevirtual 127, 3) := by decide +kernel
theorem dX3_hour_48 : decode cX3_hour 48 = .ok (.iload 4, 2) := by decide +kernel
theorem dX3_hour_50 : decode cX3_hour 50 = .ok (.ireturn, 1) := by decide +kernel
theorem dX3_days_0 : decode cX3_days 0 = .ok (.iload_n 1, 1) := by decide +kernel
theorem dX3_days_1 : decode cX3_days 1 = .ok (.iconst 1, 1) := by decide +kernel
theorem dX3_days_2 : decode cX3_days 2 = .ok (.bipush 60, 2) := by decide +kernel
theorem dX3_days_4 : decode cX3_days 4 = .ok (.invokestatic 44, 3) := by decide +kernel
theorem dX3_days_7 : decode cX3_days 7 = .ok (.istore_n 2, 1) := by decide +kernel
theorem dX3_days_8 : decode cX3_days 8 = .ok (.iload_n 2, 1) := by decide +kernel
theorem dX3_days_9 : decode cX3_days 9 = .ok (.ifCond .ne 21, 3) := by decide +kernel
theorem dX3_days_12 : decode cX3_days 12 = .ok (.aload_n 0, 1) := by decide +kernel
theorem dX3_days_13 : decode cX3_days 13 = .ok (.getfield 12, 3) := by decide +kernel
theorem dX3_days_16 : decode cX3_days 16 = .ok (.getfield 66, 3) := by decide +kernel
theorem dX3_days_19 : decode cX3_days 19 = .ok (.iload_n 1, 1) := by decide +kernel
theorem dX3_days_20 : decode cX3_days 20 = .ok (.iadd, 1) := by decide +kernel
theorem dX3_days_21 : decode cX3_days 21 = .ok (.sipush 999, 3) := by decide +kernel
theorem dX3_days_24 : decode cX3_days 24 = .ok (.if_icmp .le 6, 3) := by decide +kernel
theorem dX3_days_27 : decode cX3_days 27 = .ok (.bipush (-6), 2) := by decide +kernel
theorem dX3_days_29 : decode cX3_days 29 = .ok (.istore_n 2, 1) := by decide +kernel
theorem dX3_days_30 : decode cX3_days 30 = .ok (.iload_n 2, 1) := by decide +kernel
theorem dX3_days_31 : decode cX3_days 31 = .ok (.ifCond .eq 9, 3) := by decide +kernel
theorem dX3_days_34 : decode cX3_days 34 = .ok (.aload_n 0, 1) := by decide +kernel
theorem dX3_days_35 : decode cX3_days 35 = .ok (.iload_n 2, 1) := by decide +kernel
theorem dX3_days_36 : decode cX3_days 36 = .ok (.invokevirtual 51, 3) := by decide +kernel
theorem dX3_days_39 : decode cX3_days 39 = .ok (.ireturn, 1) := by decide +kernel
theorem dX3_days_40 : decode cX3_days 40 = .ok (.aload_n 0, 1) := by decide +kernel
theorem dX3_days_41 : decode cX3_days 41 = .ok (.getfield 12, 3) := by decide +kernel
theorem dX3_days_44 : decode cX3_days 44 = .ok (.getfield 131, 3) := by decide +kernel
theorem dX3_days_47 : decode cX3_days 47 = .ok (.invokevirtual 135, 3) := by decide +kernel
theorem dX3_days_50 : decode cX3_days 50 = .ok (.aload_n 0, 1) := by decide +kernel
theorem dX3_days_51 : decode cX3_days 51 = .ok (.getfield 12, 3) := by decide +kernel
theorem dX3_days_54 : decode cX3_days 54 = .ok (.iload_n 1, 1) := by decide +kernel
theorem dX3_days_55 : decode cX3_days 55 = .ok (.bipush 127, 2) := by decide +kernel
theorem dX3_days_57 : decode cX3_days 57 = .ok (.invokevirtual 140, 3) := by decide +kernel
theorem dX3_days_60 : decode cX3_days 60 = .ok (.aload_n 0, 1) := by decide +kernel
theorem dX3_days_61 : decode cX3_days 61 = .ok (.getfield 12, 3) := by decide +kernel
theorem dX3_days_64 : decode cX3_days 64 = .ok (.getfield 131, 3) := by decide +kernel
theorem dX3_days_67 : decode cX3_days 67 = .ok (.getfield 143, 3) := by decide +kernel
theorem dX3_days_70 : decode cX3_days 70 = .ok (.ireturn, 1) := by decide +kernel
theorem dX3_count_0 : decode cX3_count 0 = .ok (.iload_n 1, 1) := by decide +kernel
theorem dX3_count_1 : decode cX3_count 1 = .ok (.tableswitch 128 0 8 #[51, 59, 67, 75, 83, 91, 99, 115, 120], 51) := by decide +kernel
theorem dX3_count_52 : decode cX3_count 52 = .ok (.aload_n 0, 1) := by decide +kernel
theorem dX3_count_53 : decode cX3_count 53 = .ok (.getfield 12, 3) := by decide +kernel
theorem dX3_count_56 : decode cX3_count 56 = .ok (.getfield 63, 3) := by decide +kernel
theorem dX3_count_59 : decode cX3_count 59 = .ok (.ireturn, 1) := by decide +kernel
theorem dX3_count_60 : decode cX3_count 60 = .ok (.aload_n 0, 1) := by decide +kernel
theorem dX3_count_61 : decode cX3_count 61 = .ok (.getfield 12, 3) := by decide +kernel
theorem dX3_count_64 : decode cX3_count 64 = .ok (.getfield 66, 3) := by decide +kernel
theorem dX3_count_67 : decode cX3_count 67 = .ok (.ireturn, 1) := by decide +kernel
theorem dX3_count_68 : decode cX3_count 68 = .ok (.aload_n 0, 1) := by decide +kernel
theorem dX3_count_69 : decode cX3_count 69 = .ok (.getfield 12, 3) := by decide +kernel
theorem dX3_count_72 : decode cX3_count 72 = .ok (.getfield 118, 3) := by decide +kernel
theorem dX3_count_75 : decode cX3_count 75 = .ok (.ireturn, 1) := by decide +kernel
theorem dX3_count_76 : decode cX3_count 76 = .ok (.aload_n 0, 1) := by decide +kernel
theorem dX3_count_77 : decode cX3_count 77 = .ok (.getfield 12, 3) := by decide +kernel
theorem dX3_count_80 : decode cX3_count 80 = .ok (.getfield 121, 3) := by decide +kernel
theorem dX3_count_83 : decode cX3_count 83 = .ok (.ireturn, 1) := by decide +kernel
theorem dX3_count_84 : decode cX3_count 84 = .ok (.aload_n 0, 1) := by decide +kernel
theorem dX3_count_85 : decode cX3_count 85 = .ok (.getfield 12, 3) := by decide +kernel
theorem dX3_count_88 : decode cX3_count 88 = .ok (.getfield 124, 3) := by decide +kernel
theorem dX3_count_91 : decode cX3_count 91 = .ok (.ireturn, 1) := by decide +kernel
theorem dX3_count_92 : decode cX3_count 92 = .ok (.aload_n 0, 1) := by decide +kernel
theorem dX3_count_93 : decode cX3_count 93 = .ok (.getfield 12, 3) := by decide +kernel
theorem dX3_count_96 : decode cX3_count 96 = .ok (.invokevirtual 146, 3) := by decide +kernel
theorem dX3_count_99 : decode cX3_count 99 = .ok (.ireturn, 1) := by decide +kernel
theorem dX3_count_100 : decode cX3_count 100 = .ok (.aload_n 0, 1) := by decide +kernel
theorem dX3_count_101 : decode cX3_count 101 = .ok (.getfield 12, 3) := by decide +kernel
theorem dX3_count_104 : decode cX3_count 104 = .ok (.invokevirtual 149, 3) := by decide +kernel
theorem dX3_count_107 : decode cX3_count 107 = .ok (.ifCond .eq 7, 3) := by decide +kernel
theorem dX3_count_110 : decode cX3_count 110 = .ok (.iconst 1, 1) := by decide +kernel
theorem dX3_count_111 : decode cX3_count 111 = .ok (.goto 4, 3) := by decide +kernel
theorem dX3_count_114 : decode cX3_count 114 = .ok (.iconst 0, 1) := by decide +kernel
theorem dX3_count_115 : decode cX3_count 115 = .ok (.ireturn, 1) := by decide +kernel
theorem dX3_count_116 : decode cX3_count 116 = .ok (.aload_n 0, 1) := by decide +kernel
theorem dX3_count_117 : decode cX3_count 117 = .ok (.getfield 37, 3) := by decide +kernel
theorem dX3_count_120 : decode cX3_count 120 = .ok (.ireturn, 1) := by decide +kernel
theorem dX3_count_121 : decode cX3_count 121 = .ok (.aload_n 0, 1) := by decide +kernel
theorem dX3_count_122 : decode cX3_count 122 = .ok (.getfield 29, 3) := by decide +kernel
theorem dX3_count_125 : decode cX3_count 125 = .ok (.getfield 48, 3) := by decide +kernel
theorem dX3_count_128 : decode cX3_count 128 = .ok (.ireturn, 1) := by decide +kernel
theorem dX3_count_129 : decode cX3_count 129 = .ok (.iload_n 1, 1) := by decide +kernel
theorem dX3_count_130 : decode cX3_count 130 = .ok (.bipush 11, 2) := by decide +kernel
theorem dX3_count_132 : decode cX3_count 132 = .ok (.if_icmp .lt 23, 3) := by decide +kernel
theorem dX3_count_135 : decode cX3_count 135 = .ok (.iload_n 1, 1) := by decide +kernel
theorem dX3_count_136 : decode cX3_count 136 = .ok (.bipush 16, 2) := by decide +kernel
theorem dX3_count_138 : decode cX3_count 138 = .ok (.if_icmp .gt 17, 3) := by decide +kernel
theorem dX3_count_141 : decode cX3_count 141 = .ok (.aload_n 0, 1) := by decide +kernel
theorem dX3_count_142 : decode cX3_count 142 = .ok (.getfield 41, 3) := by decide +kernel
theorem dX3_count_145 : decode cX3_count 145 = .ok (.iload_n 1, 1) := by decide +kernel
theorem dX3_count_146 : decode cX3_count 146 = .ok (.bipush 11, 2) := by decide +kernel
theorem dX3_count_148 : decode cX3_count 148 = .ok (.isub, 1) := by decide +kernel
theorem dX3_count_149 : decode cX3_count 149 = .ok (.invokestatic 89, 3) := by decide +kernel
theorem dX3_count_152 : decode cX3_count 152 = .ok (.goto 5, 3) := by decide +kernel
theorem dX3_count_155 : decode cX3_count 155 = .ok (.bipush (-9), 2) := by decide +kernel
theorem dX3_count_157 : decode cX3_count 157 = .ok (.ireturn, 1) := by decide +kernel
theorem dX3_answers_0 : decode cX3_answers 0 = .ok (.aload_n 0, 1) := by decide +kernel
theorem dX3_answers_1 : decode cX3_answers 1 = .ok (.iload_n 1, 1) := by decide +kernel
theorem dX3_answers_2 : decode cX3_answers 2 = .ok (.invokevirtual 77, 3) := by decide +kernel
theorem dX3_answers_5 : decode cX3_answers 5 = .ok (.istore_n 2, 1) := by decide +kernel
theorem dX3_answers_6 : decode cX3_answers 6 = .ok (.iload_n 2, 1) := by decide +kernel
theorem dX3_answers_7 : decode cX3_answers 7 = .ok (.ifCond .eq 9, 3) := by decide +kernel
theorem dX3_answers_10 : decode cX3_answers 10 = .ok (.aload_n 0, 1) := by decide +kernel
theorem dX3_answers_11 : decode cX3_answers 11 = .ok (.iload_n 2, 1) := by decide +kernel
theorem dX3_answers_12 : decode cX3_answers 12 = .ok (.invokevirtual 51, 3) := by decide +kernel
theorem dX3_answers_15 : decode cX3_answers 15 = .ok (.ireturn, 1) := by decide +kernel
theorem dX3_answers_16 : decode cX3_answers 16 = .ok (.aload_n 0, 1) := by decide +kernel
theorem dX3_answers_17 : decode cX3_answers 17 = .ok (.getfield 12, 3) := by decide +kernel
theorem dX3_answers_20 : decode cX3_answers 20 = .ok (.iload_n 1, 1) := by decide +kernel
theorem dX3_answers_21 : decode cX3_answers 21 = .ok (.invokevirtual 153, 3) := by decide +kernel
theorem dX3_answers_24 : decode cX3_answers 24 = .ok (.ifCond .eq 7, 3) := by decide +kernel
theorem dX3_answers_27 : decode cX3_answers 27 = .ok (.iconst 1, 1) := by decide +kernel
theorem dX3_answers_28 : decode cX3_answers 28 = .ok (.goto 4, 3) := by decide +kernel
theorem dX3_answers_31 : decode cX3_answers 31 = .ok (.iconst 0, 1) := by decide +kernel
theorem dX3_answers_32 : decode cX3_answers 32 = .ok (.ireturn, 1) := by decide +kernel
theorem dX3_says_0 : decode cX3_says 0 = .ok (.aload_n 0, 1) := by decide +kernel
theorem dX3_says_1 : decode cX3_says 1 = .ok (.iload_n 1, 1) := by decide +kernel
theorem dX3_says_2 : decode cX3_says 2 = .ok (.invokevirtual 77, 3) := by decide +kernel
theorem dX3_says_5 : decode cX3_says 5 = .ok (.istore_n 2, 1) := by decide +kernel
theorem dX3_says_6 : decode cX3_says 6 = .ok (.iload_n 2, 1) := by decide +kernel
theorem dX3_says_7 : decode cX3_says 7 = .ok (.ifCond .eq 11, 3) := by decide +kernel
theorem dX3_says_10 : decode cX3_says 10 = .ok (.aload_n 0, 1) := by decide +kernel
theorem dX3_says_11 : decode cX3_says 11 = .ok (.iload_n 2, 1) := by decide +kernel
theorem dX3_says_12 : decode cX3_says 12 = .ok (.invokevirtual 51, 3) := by decide +kernel
theorem dX3_says_15 : decode cX3_says 15 = .ok (.goto 11, 3) := by decide +kernel
theorem dX3_says_18 : decode cX3_says 18 = .ok (.aload_n 0, 1) := by decide +kernel
theorem dX3_says_19 : decode cX3_says 19 = .ok (.getfield 12, 3) := by decide +kernel
theorem dX3_says_22 : decode cX3_says 22 = .ok (.iload_n 1, 1) := by decide +kernel
theorem dX3_says_23 : decode cX3_says 23 = .ok (.invokevirtual 157, 3) := by decide +kernel
theorem dX3_says_26 : decode cX3_says 26 = .ok (.ireturn, 1) := by decide +kernel
theorem dX3_behind_0 : decode cX3_behind 0 = .ok (.iload_n 1, 1) := by decide +kernel
theorem dX3_behind_1 : decode cX3_behind 1 = .ok (.invokestatic 160, 3) := by decide +kernel
theorem dX3_behind_4 : decode cX3_behind 4 = .ok (.iload_n 2, 1) := by decide +kernel
theorem dX3_behind_5 : decode cX3_behind 5 = .ok (.iconst 4, 1) := by decide +kernel
theorem dX3_behind_6 : decode cX3_behind 6 = .ok (.invokestatic 80, 3) := by decide +kernel
theorem dX3_behind_9 : decode cX3_behind 9 = .ok (.invokestatic 83, 3) := by decide +kernel
theorem dX3_behind_12 : decode cX3_behind 12 = .ok (.istore_n 3, 1) := by decide +kernel
theorem dX3_behind_13 : decode cX3_behind 13 = .ok (.iload_n 3, 1) := by decide +kernel
theorem dX3_behind_14 : decode cX3_behind 14 = .ok (.ifCond .eq 9, 3) := by decide +kernel
theorem dX3_behind_17 : decode cX3_behind 17 = .ok (.aload_n 0, 1) := by decide +kernel
theorem dX3_behind_18 : decode cX3_behind 18 = .ok (.iload_n 3, 1) := by decide +kernel
theorem dX3_behind_19 : decode cX3_behind 19 = .ok (.invokevirtual 51, 3) := by decide +kernel
theorem dX3_behind_22 : decode cX3_behind 22 = .ok (.ireturn, 1) := by decide +kernel
theorem dX3_behind_23 : decode cX3_behind 23 = .ok (.aload_n 0, 1) := by decide +kernel
theorem dX3_behind_24 : decode cX3_behind 24 = .ok (.iload_n 1, 1) := by decide +kernel
theorem dX3_behind_25 : decode cX3_behind 25 = .ok (.bipush 127, 2) := by decide +kernel
theorem dX3_behind_27 : decode cX3_behind 27 = .ok (.invokevirtual 163, 3) := by decide +kernel
theorem dX3_behind_30 : decode cX3_behind 30 = .ok (.iload_n 2, 1) := by decide +kernel
theorem dX3_behind_31 : decode cX3_behind 31 = .ok (.tableswitch 66 0 3 #[29, 37, 45, 55], 29) := by decide +kernel
theorem dX3_behind_60 : decode cX3_behind 60 = .ok (.aload_n 0, 1) := by decide +kernel
theorem dX3_behind_61 : decode cX3_behind 61 = .ok (.getfield 16, 3) := by decide +kernel
theorem dX3_behind_64 : decode cX3_behind 64 = .ok (.getfield 121, 3) := by decide +kernel
theorem dX3_behind_67 : decode cX3_behind 67 = .ok (.ireturn, 1) := by decide +kernel
theorem dX3_behind_68 : decode cX3_behind 68 = .ok (.aload_n 0, 1) := by decide +kernel
theorem dX3_behind_69 : decode cX3_behind 69 = .ok (.getfield 16, 3) := by decide +kernel
theorem dX3_behind_72 : decode cX3_behind 72 = .ok (.invokevirtual 146, 3) := by decide +kernel
theorem dX3_behind_75 : decode cX3_behind 75 = .ok (.ireturn, 1) := by decide +kernel
theorem dX3_behind_76 : decode cX3_behind 76 = .ok (.aload_n 0, 1) := by decide +kernel
theorem dX3_behind_77 : decode cX3_behind 77 = .ok (.getfield 16, 3) := by decide +kernel
theorem dX3_behind_80 : decode cX3_behind 80 = .ok (.bipush (-9), 2) := by decide +kernel
theorem dX3_behind_82 : decode cX3_behind 82 = .ok (.invokevirtual 166, 3) := by decide +kernel
theorem dX3_behind_85 : decode cX3_behind 85 = .ok (.ireturn, 1) := by decide +kernel
theorem dX3_behind_86 : decode cX3_behind 86 = .ok (.aload_n 0, 1) := by decide +kernel
theorem dX3_behind_87 : decode cX3_behind 87 = .ok (.getfield 16, 3) := by decide +kernel
theorem dX3_behind_90 : decode cX3_behind 90 = .ok (.getfield 131, 3) := by decide +kernel
theorem dX3_behind_93 : decode cX3_behind 93 = .ok (.getfield 143, 3) := by decide +kernel
theorem dX3_behind_96 : decode cX3_behind 96 = .ok (.ireturn, 1) := by decide +kernel
theorem dX3_behind_97 : decode cX3_behind 97 = .ok (.aload_n 0, 1) := by decide +kernel
theorem dX3_behind_98 : decode cX3_behind 98 = .ok (.getfield 16, 3) := by decide +kernel
theorem dX3_behind_101 : decode cX3_behind 101 = .ok (.getfield 131, 3) := by decide +kernel
theorem dX3_behind_104 : decode cX3_behind 104 = .ok (.getfield 169, 3) := by decide +kernel
theorem dX3_behind_107 : decode cX3_behind 107 = .ok (.ireturn, 1) := by decide +kernel
theorem dX3_knownIn_0 : decode cX3_knownIn 0 = .ok (.iload_n 1, 1) := by decide +kernel
theorem dX3_knownIn_1 : decode cX3_knownIn 1 = .ok (.invokestatic 160, 3) := by decide +kernel
theorem dX3_knownIn_4 : decode cX3_knownIn 4 = .ok (.iload_n 2, 1) := by decide +kernel
theorem dX3_knownIn_5 : decode cX3_knownIn 5 = .ok (.invokestatic 105, 3) := by decide +kernel
theorem dX3_knownIn_8 : decode cX3_knownIn 8 = .ok (.invokestatic 83, 3) := by decide +kernel
theorem dX3_knownIn_11 : decode cX3_knownIn 11 = .ok (.istore_n 3, 1) := by decide +kernel
theorem dX3_knownIn_12 : decode cX3_knownIn 12 = .ok (.iload_n 3, 1) := by decide +kernel
theorem dX3_knownIn_13 : decode cX3_knownIn 13 = .ok (.ifCond .eq 9, 3) := by decide +kernel
theorem dX3_knownIn_16 : decode cX3_knownIn 16 = .ok (.aload_n 0, 1) := by decide +kernel
theorem dX3_knownIn_17 : decode cX3_knownIn 17 = .ok (.iload_n 3, 1) := by decide +kernel
theorem dX3_knownIn_18 : decode cX3_knownIn 18 = .ok (.invokevirtual 51, 3) := by decide +kernel
theorem dX3_knownIn_21 : decode cX3_knownIn 21 = .ok (.ireturn, 1) := by decide +kernel
theorem dX3_knownIn_22 : decode cX3_knownIn 22 = .ok (.aload_n 0, 1) := by decide +kernel
theorem dX3_knownIn_23 : decode cX3_knownIn 23 = .ok (.iload_n 1, 1) := by decide +kernel
theorem dX3_knownIn_24 : decode cX3_knownIn 24 = .ok (.bipush 127, 2) := by decide +kernel
theorem dX3_knownIn_26 : decode cX3_knownIn 26 = .ok (.invokevirtual 163, 3) := by decide +kernel
theorem dX3_knownIn_29 : decode cX3_knownIn 29 = .ok (.aload_n 0, 1) := by decide +kernel
theorem dX3_knownIn_30 : decode cX3_knownIn 30 = .ok (.getfield 16, 3) := by decide +kernel
theorem dX3_knownIn_33 : decode cX3_knownIn 33 = .ok (.getfield 108, 3) := by decide +kernel
theorem dX3_knownIn_36 : decode cX3_knownIn 36 = .ok (.iload_n 2, 1) := by decide +kernel
theorem dX3_knownIn_37 : decode cX3_knownIn 37 = .ok (.invokestatic 89, 3) := by decide +kernel
theorem dX3_knownIn_40 : decode cX3_knownIn 40 = .ok (.ireturn, 1) := by decide +kernel
theorem dX3_of_0 : decode cX3_of 0 = .ok (.aload_n 0, 1) := by decide +kernel
theorem dX3_of_1 : decode cX3_of 1 = .ok (.iload_n 1, 1) := by decide +kernel
theorem dX3_of_2 : decode cX3_of 2 = .ok (.invokevirtual 77, 3) := by decide +kernel
theorem dX3_of_5 : decode cX3_of 5 = .ok (.iload_n 2, 1) := by decide +kernel
theorem dX3_of_6 : decode cX3_of 6 = .ok (.invokestatic 160, 3) := by decide +kernel
theorem dX3_of_9 : decode cX3_of 9 = .ok (.iload_n 3, 1) := by decide +kernel
theorem dX3_of_10 : decode cX3_of 10 = .ok (.iconst 1, 1) := by decide +kernel
theorem dX3_of_11 : decode cX3_of 11 = .ok (.invokestatic 80, 3) := by decide +kernel
theorem dX3_of_14 : decode cX3_of 14 = .ok (.invokestatic 83, 3) := by decide +kernel
theorem dX3_of_17 : decode cX3_of 17 = .ok (.invokestatic 83, 3) := by decide +kernel
theorem dX3_of_20 : decode cX3_of 20 = .ok (.istore 4, 2) := by decide +kernel
theorem dX3_of_22 : decode cX3_of 22 = .ok (.iload 4, 2) := by decide +kernel
theorem dX3_of_24 : decode cX3_of 24 = .ok (.ifCond .eq 10, 3) := by decide +kernel
theorem dX3_of_27 : decode cX3_of 27 = .ok (.aload_n 0, 1) := by decide +kernel
theorem dX3_of_28 : decode cX3_of 28 = .ok (.iload 4, 2) := by decide +kernel
theorem dX3_of_30 : decode cX3_of 30 = .ok (.invokevirtual 51, 3) := by decide +kernel
theorem dX3_of_33 : decode cX3_of 33 = .ok (.ireturn, 1) := by decide +kernel
theorem dX3_of_34 : decode cX3_of 34 = .ok (.aload_n 0, 1) := by decide +kernel
theorem dX3_of_35 : decode cX3_of 35 = .ok (.iload_n 2, 1) := by decide +kernel
theorem dX3_of_36 : decode cX3_of 36 = .ok (.bipush 127, 2) := by decide +kernel
theorem dX3_of_38 : decode cX3_of 38 = .ok (.invokevirtual 163, 3) := by decide +kernel
theorem dX3_of_41 : decode cX3_of 41 = .ok (.iload_n 3, 1) := by decide +kernel
theorem dX3_of_42 : decode cX3_of 42 = .ok (.ifCond .ne 16, 3) := by decide +kernel
theorem dX3_of_45 : decode cX3_of 45 = .ok (.aload_n 0, 1) := by decide +kernel
theorem dX3_of_46 : decode cX3_of 46 = .ok (.getfield 16, 3) := by decide +kernel
theorem dX3_of_49 : decode cX3_of 49 = .ok (.getfield 131, 3) := by decide +kernel
theorem dX3_of_52 : decode cX3_of 52 = .ok (.getfield 172, 3) := by decide +kernel
theorem dX3_of_55 : decode cX3_of 55 = .ok (.goto 13, 3) := by decide +kernel
theorem dX3_of_58 : decode cX3_of 58 = .ok (.aload_n 0, 1) := by decide +kernel
theorem dX3_of_59 : decode cX3_of 59 = .ok (.getfield 16, 3) := by decide +kernel
theorem dX3_of_62 : decode cX3_of 62 = .ok (.getfield 131, 3) := by decide +kernel
theorem dX3_of_65 : decode cX3_of 65 = .ok (.getfield 175, 3) := by decide +kernel
theorem dX3_of_68 : decode cX3_of 68 = .ok (.iload_n 1, 1) := by decide +kernel
theorem dX3_of_69 : decode cX3_of 69 = .ok (.invokestatic 89, 3) := by decide +kernel
theorem dX3_of_72 : decode cX3_of 72 = .ok (.ireturn, 1) := by decide +kernel
theorem dX3_knows_0 : decode cX3_knows 0 = .ok (.iload_n 1, 1) := by decide +kernel
theorem dX3_knows_1 : decode cX3_knows 1 = .ok (.invokestatic 105, 3) := by decide +kernel
theorem dX3_knows_4 : decode cX3_knows 4 = .ok (.iload_n 2, 1) := by decide +kernel
theorem dX3_knows_5 : decode cX3_knows 5 = .ok (.iconst 0, 1) := by decide +kernel
theorem dX3_knows_6 : decode cX3_knows 6 = .ok (.bipush 20, 2) := by decide +kernel
theorem dX3_knows_8 : decode cX3_knows 8 = .ok (.invokestatic 44, 3) := by decide +kernel
theorem dX3_knows_11 : decode cX3_knows 11 = .ok (.invokestatic 83, 3) := by decide +kernel
theorem dX3_knows_14 : decode cX3_knows 14 = .ok (.istore_n 3, 1) := by decide +kernel
theorem dX3_knows_15 : decode cX3_knows 15 = .ok (.iload_n 3, 1) := by decide +kernel
theorem dX3_knows_16 : decode cX3_knows 16 = .ok (.ifCond .eq 9, 3) := by decide +kernel
theorem dX3_knows_19 : decode cX3_knows 19 = .ok (.aload_n 0, 1) := by decide +kernel
theorem dX3_knows_20 : decode cX3_knows 20 = .ok (.iload_n 3, 1) := by decide +kernel
theorem dX3_knows_21 : decode cX3_knows 21 = .ok (.invokevirtual 51, 3) := by decide +kernel
theorem dX3_knows_24 : decode cX3_knows 24 = .ok (.ireturn, 1) := by decide +kernel
theorem dX3_knows_25 : decode cX3_knows 25 = .ok (.aload_n 0, 1) := by decide +kernel
theorem dX3_knows_26 : decode cX3_knows 26 = .ok (.invokevirtual 178, 3) := by decide +kernel
theorem dX3_knows_29 : decode cX3_knows 29 = .ok (.iconst 0, 1) := by decide +kernel
theorem dX3_knows_30 : decode cX3_knows 30 = .ok (.istore 4, 2) := by decide +kernel
theorem dX3_knows_32 : decode cX3_knows 32 = .ok (.iload 4, 2) := by decide +kernel
theorem dX3_knows_34 : decode cX3_knows 34 = .ok (.bipush 60, 2) := by decide +kernel
theorem dX3_knows_36 : decode cX3_knows 36 = .ok (.if_icmp .gt 36, 3) := by decide +kernel
theorem dX3_knows_39 : decode cX3_knows 39 = .ok (.aload_n 0, 1) := by decide +kernel
theorem dX3_knows_40 : decode cX3_knows 40 = .ok (.getfield 16, 3) := by decide +kernel
theorem dX3_knows_43 : decode cX3_knows 43 = .ok (.getfield 108, 3) := by decide +kernel
theorem dX3_knows_46 : decode cX3_knows 46 = .ok (.iload_n 1, 1) := by decide +kernel
theorem dX3_knows_47 : decode cX3_knows 47 = .ok (.invokestatic 89, 3) := by decide +kernel
theorem dX3_knows_50 : decode cX3_knows 50 = .ok (.iload_n 2, 1) := by decide +kernel
theorem dX3_knows_51 : decode cX3_knows 51 = .ok (.if_icmp .lt 6, 3) := by decide +kernel
theorem dX3_knows_54 : decode cX3_knows 54 = .ok (.iload 4, 2) := by decide +kernel
theorem dX3_knows_56 : decode cX3_knows 56 = .ok (.ireturn, 1) := by decide +kernel
theorem dX3_knows_57 : decode cX3_knows 57 = .ok (.aload_n 0, 1) := by decide +kernel
theorem dX3_knows_58 : decode cX3_knows 58 = .ok (.getfield 16, 3) := by decide +kernel
theorem dX3_knows_61 : decode cX3_knows 61 = .ok (.bipush 127, 2) := by decide +kernel
theorem dX3_knows_63 : decode cX3_knows 63 = .ok (.invokevirtual 181, 3) := by decide +kernel
theorem dX3_knows_66 : decode cX3_knows 66 = .ok (.iinc 4 1, 3) := by decide +kernel
theorem dX3_knows_69 : decode cX3_knows 69 = .ok (.goto (-37), 3) := by decide +kernel
theorem dX3_knows_72 : decode cX3_knows 72 = .ok (.bipush (-9), 2) := by decide +kernel
theorem dX3_knows_74 : decode cX3_knows 74 = .ok (.ireturn, 1) := by decide +kernel
theorem dX3_silent_0 : decode cX3_silent 0 = .ok (.aload_n 0, 1) := by decide +kernel
theorem dX3_silent_1 : decode cX3_silent 1 = .ok (.invokevirtual 178, 3) := by decide +kernel
theorem dX3_silent_4 : decode cX3_silent 4 = .ok (.iconst 0, 1) := by decide +kernel
theorem dX3_silent_5 : decode cX3_silent 5 = .ok (.istore_n 1, 1) := by decide +kernel
theorem dX3_silent_6 : decode cX3_silent 6 = .ok (.iload_n 1, 1) := by decide +kernel
theorem dX3_silent_7 : decode cX3_silent 7 = .ok (.bipush 60, 2) := by decide +kernel
theorem dX3_silent_9 : decode cX3_silent 9 = .ok (.if_icmp .gt 30, 3) := by decide +kernel
theorem dX3_silent_12 : decode cX3_silent 12 = .ok (.aload_n 0, 1) := by decide +kernel
theorem dX3_silent_13 : decode cX3_silent 13 = .ok (.getfield 16, 3) := by decide +kernel
theorem dX3_silent_16 : decode cX3_silent 16 = .ok (.invokevirtual 149, 3) := by decide +kernel
theorem dX3_silent_19 : decode cX3_silent 19 = .ok (.ifCond .eq 5, 3) := by decide +kernel
theorem dX3_silent_22 : decode cX3_silent 22 = .ok (.iload_n 1, 1) := by decide +kernel
theorem dX3_silent_23 : decode cX3_silent 23 = .ok (.ireturn, 1) := by decide +kernel
theorem dX3_silent_24 : decode cX3_silent 24 = .ok (.aload_n 0, 1) := by decide +kernel
theorem dX3_silent_25 : decode cX3_silent 25 = .ok (.getfield 16, 3) := by decide +kernel
theorem dX3_silent_28 : decode cX3_silent 28 = .ok (.bipush 127, 2) := by decide +kernel
theorem dX3_silent_30 : decode cX3_silent 30 = .ok (.invokevirtual 181, 3) := by decide +kernel
theorem dX3_silent_33 : decode cX3_silent 33 = .ok (.iinc 1 1, 3) := by decide +kernel
theorem dX3_silent_36 : decode cX3_silent 36 = .ok (.goto (-30), 3) := by decide +kernel
theorem dX3_silent_39 : decode cX3_silent 39 = .ok (.bipush (-9), 2) := by decide +kernel
theorem dX3_silent_41 : decode cX3_silent 41 = .ok (.ireturn, 1) := by decide +kernel
theorem dX3_might_0 : decode cX3_might 0 = .ok (.iload_n 1, 1) := by decide +kernel
theorem dX3_might_1 : decode cX3_might 1 = .ok (.invokestatic 160, 3) := by decide +kernel
theorem dX3_might_4 : decode cX3_might 4 = .ok (.istore_n 2, 1) := by decide +kernel
theorem dX3_might_5 : decode cX3_might 5 = .ok (.iload_n 2, 1) := by decide +kernel
theorem dX3_might_6 : decode cX3_might 6 = .ok (.ifCond .eq 9, 3) := by decide +kernel
theorem dX3_might_9 : decode cX3_might 9 = .ok (.aload_n 0, 1) := by decide +kernel
theorem dX3_might_10 : decode cX3_might 10 = .ok (.iload_n 2, 1) := by decide +kernel
theorem dX3_might_11 : decode cX3_might 11 = .ok (.invokevirtual 51, 3) := by decide +kernel
theorem dX3_might_14 : decode cX3_might 14 = .ok (.ireturn, 1) := by decide +kernel
theorem dX3_might_15 : decode cX3_might 15 = .ok (.aload_n 0, 1) := by decide +kernel
theorem dX3_might_16 : decode cX3_might 16 = .ok (.iload_n 1, 1) := by decide +kernel
theorem dX3_might_17 : decode cX3_might 17 = .ok (.bipush 127, 2) := by decide +kernel
theorem dX3_might_19 : decode cX3_might 19 = .ok (.invokevirtual 163, 3) := by decide +kernel
theorem dX3_might_22 : decode cX3_might 22 = .ok (.aload_n 0, 1) := by decide +kernel
theorem dX3_might_23 : decode cX3_might 23 = .ok (.getfield 16, 3) := by decide +kernel
theorem dX3_might_26 : decode cX3_might 26 = .ok (.getfield 131, 3) := by decide +kernel
theorem dX3_might_29 : decode cX3_might 29 = .ok (.getfield 184, 3) := by decide +kernel
theorem dX3_might_32 : decode cX3_might 32 = .ok (.ireturn, 1) := by decide +kernel
theorem dX3_snow_0 : decode cX3_snow 0 = .ok (.iload_n 1, 1) := by decide +kernel
theorem dX3_snow_1 : decode cX3_snow 1 = .ok (.invokestatic 160, 3) := by decide +kernel
theorem dX3_snow_4 : decode cX3_snow 4 = .ok (.iload_n 2, 1) := by decide +kernel
theorem dX3_snow_5 : decode cX3_snow 5 = .ok (.iconst 1, 1) := by decide +kernel
theorem dX3_snow_6 : decode cX3_snow 6 = .ok (.invokestatic 80, 3) := by decide +kernel
theorem dX3_snow_9 : decode cX3_snow 9 = .ok (.invokestatic 83, 3) := by decide +kernel
theorem dX3_snow_12 : decode cX3_snow 12 = .ok (.istore_n 3, 1) := by decide +kernel
theorem dX3_snow_13 : decode cX3_snow 13 = .ok (.iload_n 3, 1) := by decide +kernel
theorem dX3_snow_14 : decode cX3_snow 14 = .ok (.ifCond .eq 9, 3) := by decide +kernel
theorem dX3_snow_17 : decode cX3_snow 17 = .ok (.aload_n 0, 1) := by decide +kernel
theorem dX3_snow_18 : decode cX3_snow 18 = .ok (.iload_n 3, 1) := by decide +kernel
theorem dX3_snow_19 : decode cX3_snow 19 = .ok (.invokevirtual 51, 3) := by decide +kernel
theorem dX3_snow_22 : decode cX3_snow 22 = .ok (.ireturn, 1) := by decide +kernel
theorem dX3_snow_23 : decode cX3_snow 23 = .ok (.aload_n 0, 1) := by decide +kernel
theorem dX3_snow_24 : decode cX3_snow 24 = .ok (.iload_n 1, 1) := by decide +kernel
theorem dX3_snow_25 : decode cX3_snow 25 = .ok (.iconst 0, 1) := by decide +kernel
theorem dX3_snow_26 : decode cX3_snow 26 = .ok (.invokevirtual 163, 3) := by decide +kernel
theorem dX3_snow_29 : decode cX3_snow 29 = .ok (.iload_n 2, 1) := by decide +kernel
theorem dX3_snow_30 : decode cX3_snow 30 = .ok (.ifCond .ne 13, 3) := by decide +kernel
theorem dX3_snow_33 : decode cX3_snow 33 = .ok (.aload_n 0, 1) := by decide +kernel
theorem dX3_snow_34 : decode cX3_snow 34 = .ok (.getfield 16, 3) := by decide +kernel
theorem dX3_snow_37 : decode cX3_snow 37 = .ok (.getfield 121, 3) := by decide +kernel
theorem dX3_snow_40 : decode cX3_snow 40 = .ok (.goto 10, 3) := by decide +kernel
theorem dX3_snow_43 : decode cX3_snow 43 = .ok (.aload_n 0, 1) := by decide +kernel
theorem dX3_snow_44 : decode cX3_snow 44 = .ok (.getfield 16, 3) := by decide +kernel
theorem dX3_snow_47 : decode cX3_snow 47 = .ok (.invokevirtual 146, 3) := by decide +kernel
theorem dX3_snow_50 : decode cX3_snow 50 = .ok (.ireturn, 1) := by decide +kernel
theorem dX3_heals_0 : decode cX3_heals 0 = .ok (.aload_n 0, 1) := by decide +kernel
theorem dX3_heals_1 : decode cX3_heals 1 = .ok (.iload_n 1, 1) := by decide +kernel
theorem dX3_heals_2 : decode cX3_heals 2 = .ok (.invokevirtual 77, 3) := by decide +kernel
theorem dX3_heals_5 : decode cX3_heals 5 = .ok (.istore_n 2, 1) := by decide +kernel
theorem dX3_heals_6 : decode cX3_heals 6 = .ok (.iload_n 2, 1) := by decide +kernel
theorem dX3_heals_7 : decode cX3_heals 7 = .ok (.ifCond .eq 9, 3) := by decide +kernel
theorem dX3_heals_10 : decode cX3_heals 10 = .ok (.aload_n 0, 1) := by decide +kernel
theorem dX3_heals_11 : decode cX3_heals 11 = .ok (.iload_n 2, 1) := by decide +kernel
theorem dX3_heals_12 : decode cX3_heals 12 = .ok (.invokevirtual 51, 3) := by decide +kernel
theorem dX3_heals_15 : decode cX3_heals 15 = .ok (.ireturn, 1) := by decide +kernel
theorem dX3_heals_16 : decode cX3_heals 16 = .ok (.aload_n 0, 1) := by decide +kernel
theorem dX3_heals_17 : decode cX3_heals 17 = .ok (.invokevirtual 178, 3) := by decide +kernel
theorem dX3_heals_20 : decode cX3_heals 20 = .ok (.aload_n 0, 1) := by decide +kernel
theorem dX3_heals_21 : decode cX3_heals 21 = .ok (.getfield 16, 3) := by decide +kernel
theorem dX3_heals_24 : decode cX3_heals 24 = .ok (.bipush 7, 2) := by decide +kernel
theorem dX3_heals_26 : decode cX3_heals 26 = .ok (.invokevirtual 187, 3) := by decide +kernel
theorem dX3_heals_29 : decode cX3_heals 29 = .ok (.iconst 0, 1) := by decide +kernel
theorem dX3_heals_30 : decode cX3_heals 30 = .ok (.istore_n 3, 1) := by decide +kernel
theorem dX3_heals_31 : decode cX3_heals 31 = .ok (.iload_n 3, 1) := by decide +kernel
theorem dX3_heals_32 : decode cX3_heals 32 = .ok (.sipush 200, 3) := by decide +kernel
theorem dX3_heals_35 : decode cX3_heals 35 = .ok (.if_icmp .gt 31, 3) := by decide +kernel
theorem dX3_heals_38 : decode cX3_heals 38 = .ok (.aload_n 0, 1) := by decide +kernel
theorem dX3_heals_39 : decode cX3_heals 39 = .ok (.getfield 16, 3) := by decide +kernel
theorem dX3_heals_42 : decode cX3_heals 42 = .ok (.getfield 121, 3) := by decide +kernel
theorem dX3_heals_45 : decode cX3_heals 45 = .ok (.ifCond .ne 5, 3) := by decide +kernel
theorem dX3_heals_48 : decode cX3_heals 48 = .ok (.iload_n 3, 1) := by decide +kernel
theorem dX3_heals_49 : decode cX3_heals 49 = .ok (.ireturn, 1) := by decide +kernel
theorem dX3_heals_50 : decode cX3_heals 50 = .ok (.aload_n 0, 1) := by decide +kernel
theorem dX3_heals_51 : decode cX3_heals 51 = .ok (.getfield 16, 3) := by decide +kernel
theorem dX3_heals_54 : decode cX3_heals 54 = .ok (.iconst 1, 1) := by decide +kernel
theorem dX3_heals_55 : decode cX3_heals 55 = .ok (.iload_n 1, 1) := by decide +kernel
theorem dX3_heals_56 : decode cX3_heals 56 = .ok (.ishl, 1) := by decide +kernel
theorem dX3_heals_57 : decode cX3_heals 57 = .ok (.invokevirtual 181, 3) := by decide +kernel
theorem dX3_heals_60 : decode cX3_heals 60 = .ok (.iinc 3 1, 3) := by decide +kernel
theorem dX3_heals_63 : decode cX3_heals 63 = .ok (.goto (-32), 3) := by decide +kernel
theorem dX3_heals_66 : decode cX3_heals 66 = .ok (.bipush (-9), 2) := by decide +kernel
theorem dX3_heals_68 : decode cX3_heals 68 = .ok (.ireturn, 1) := by decide +kernel
theorem dX3_week_0 : decode cX3_week 0 = .ok (.iload_n 1, 1) := by decide +kernel
theorem dX3_week_1 : decode cX3_week 1 = .ok (.iconst 1, 1) := by decide +kernel
theorem dX3_week_2 : decode cX3_week 2 = .ok (.invokestatic 80, 3) := by decide +kernel
theorem dX3_week_5 : decode cX3_week 5 = .ok (.istore_n 2, 1) := by decide +kernel
theorem dX3_week_6 : decode cX3_week 6 = .ok (.iconst 0, 1) := by decide +kernel
theorem dX3_week_7 : decode cX3_week 7 = .ok (.istore_n 3, 1) := by decide +kernel
theorem dX3_week_8 : decode cX3_week 8 = .ok (.iload_n 3, 1) := by decide +kernel
theorem dX3_week_9 : decode cX3_week 9 = .ok (.aload_n 0, 1) := by decide +kernel
theorem dX3_week_10 : decode cX3_week 10 = .ok (.getfield 37, 3) := by decide +kernel
theorem dX3_week_13 : decode cX3_week 13 = .ok (.if_icmp .ge 34, 3) := by decide +kernel
theorem dX3_week_16 : decode cX3_week 16 = .ok (.iload_n 2, 1) := by decide +kernel
theorem dX3_week_17 : decode cX3_week 17 = .ok (.ifCond .ne 30, 3) := by decide +kernel
theorem dX3_week_20 : decode cX3_week 20 = .ok (.aload_n 0, 1) := by decide +kernel
theorem dX3_week_21 : decode cX3_week 21 = .ok (.getfield 12, 3) := by decide +kernel
theorem dX3_week_24 : decode cX3_week 24 = .ok (.aload_n 0, 1) := by decide +kernel
theorem dX3_week_25 : decode cX3_week 25 = .ok (.getfield 33, 3) := by decide +kernel
theorem dX3_week_28 : decode cX3_week 28 = .ok (.iload_n 3, 1) := by decide +kernel
theorem dX3_week_29 : decode cX3_week 29 = .ok (.invokestatic 89, 3) := by decide +kernel
theorem dX3_week_32 : decode cX3_week 32 = .ok (.invokevirtual 190, 3) := by decide +kernel
theorem dX3_week_35 : decode cX3_week 35 = .ok (.ifCond .ne 6, 3) := by decide +kernel
theorem dX3_week_38 : decode cX3_week 38 = .ok (.bipush (-3), 2) := by decide +kernel
theorem dX3_week_40 : decode cX3_week 40 = .ok (.istore_n 2, 1) := by decide +kernel
theorem dX3_week_41 : decode cX3_week 41 = .ok (.iinc 3 1, 3) := by decide +kernel
theorem dX3_week_44 : decode cX3_week 44 = .ok (.goto (-36), 3) := by decide +kernel
theorem dX3_week_47 : decode cX3_week 47 = .ok (.iload_n 2, 1) := by decide +kernel
theorem dX3_week_48 : decode cX3_week 48 = .ok (.ifCond .eq 9, 3) := by decide +kernel
theorem dX3_week_51 : decode cX3_week 51 = .ok (.aload_n 0, 1) := by decide +kernel
theorem dX3_week_52 : decode cX3_week 52 = .ok (.iload_n 2, 1) := by decide +kernel
theorem dX3_week_53 : decode cX3_week 53 = .ok (.invokevirtual 51, 3) := by decide +kernel
theorem dX3_week_56 : decode cX3_week 56 = .ok (.ireturn, 1) := by decide +kernel
theorem dX3_week_57 : decode cX3_week 57 = .ok (.aload_n 0, 1) := by decide +kernel
theorem dX3_week_58 : decode cX3_week 58 = .ok (.invokevirtual 178, 3) := by decide +kernel
theorem dX3_week_61 : decode cX3_week 61 = .ok (.aload_n 0, 1) := by decide +kernel
theorem dX3_week_62 : decode cX3_week 62 = .ok (.getfield 16, 3) := by decide +kernel
theorem dX3_week_65 : decode cX3_week 65 = .ok (.bipush 7, 2) := by decide +kernel
theorem dX3_week_67 : decode cX3_week 67 = .ok (.invokevirtual 187, 3) := by decide +kernel
theorem dX3_week_70 : decode cX3_week 70 = .ok (.iconst 0, 1) := by decide +kernel
theorem dX3_week_71 : decode cX3_week 71 = .ok (.istore_n 3, 1) := by decide +kernel
theorem dX3_week_72 : decode cX3_week 72 = .ok (.iload_n 3, 1) := by decide +kernel
theorem dX3_week_73 : decode cX3_week 73 = .ok (.aload_n 0, 1) := by decide +kernel
theorem dX3_week_74 : decode cX3_week 74 = .ok (.getfield 37, 3) := by decide +kernel
theorem dX3_week_77 : decode cX3_week 77 = .ok (.if_icmp .ge 26, 3) := by decide +kernel
theorem dX3_week_80 : decode cX3_week 80 = .ok (.aload_n 0, 1) := by decide +kernel
theorem dX3_week_81 : decode cX3_week 81 = .ok (.getfield 16, 3) := by decide +kernel
theorem dX3_week_84 : decode cX3_week 84 = .ok (.iconst 1, 1) := by decide +kernel
theorem dX3_week_85 : decode cX3_week 85 = .ok (.aload_n 0, 1) := by decide +kernel
theorem dX3_week_86 : decode cX3_week 86 = .ok (.getfield 33, 3) := by decide +kernel
theorem dX3_week_89 : decode cX3_week 89 = .ok (.iload_n 3, 1) := by decide +kernel
theorem dX3_week_90 : decode cX3_week 90 = .ok (.invokestatic 89, 3) := by decide +kernel
theorem dX3_week_93 : decode cX3_week 93 = .ok (.ishl, 1) := by decide +kernel
theorem dX3_week_94 : decode cX3_week 94 = .ok (.invokevirtual 181, 3) := by decide +kernel
theorem dX3_week_97 : decode cX3_week 97 = .ok (.iinc 3 1, 3) := by decide +kernel
theorem dX3_week_100 : decode cX3_week 100 = .ok (.goto (-28), 3) := by decide +kernel
theorem dX3_week_103 : decode cX3_week 103 = .ok (.iload_n 1, 1) := by decide +kernel
theorem dX3_week_104 : decode cX3_week 104 = .ok (.ifCond .ne 16, 3) := by decide +kernel
theorem dX3_week_107 : decode cX3_week 107 = .ok (.aload_n 0, 1) := by decide +kernel
theorem dX3_week_108 : decode cX3_week 108 = .ok (.getfield 16, 3) := by decide +kernel
theorem dX3_week_111 : decode cX3_week 111 = .ok (.getfield 131, 3) := by decide +kernel
theorem dX3_week_114 : decode cX3_week 114 = .ok (.getfield 143, 3) := by decide +kernel
theorem dX3_week_117 : decode cX3_week 117 = .ok (.goto 10, 3) := by decide +kernel
theorem dX3_week_120 : decode cX3_week 120 = .ok (.aload_n 0, 1) := by decide +kernel
theorem dX3_week_121 : decode cX3_week 121 = .ok (.getfield 16, 3) := by decide +kernel
theorem dX3_week_124 : decode cX3_week 124 = .ok (.getfield 121, 3) := by decide +kernel
theorem dX3_week_127 : decode cX3_week 127 = .ok (.ireturn, 1) := by decide +kernel
theorem dX3_bestWeek_0 : decode cX3_bestWeek 0 = .ok (.iload_n 1, 1) := by decide +kernel
theorem dX3_bestWeek_1 : decode cX3_bestWeek 1 = .ok (.iconst (-1), 1) := by decide +kernel
theorem dX3_bestWeek_2 : decode cX3_bestWeek 2 = .ok (.iconst 2, 1) := by decide +kernel
theorem dX3_bestWeek_3 : decode cX3_bestWeek 3 = .ok (.invokestatic 44, 3) := by decide +kernel
theorem dX3_bestWeek_6 : decode cX3_bestWeek 6 = .ok (.istore_n 2, 1) := by decide +kernel
theorem dX3_bestWeek_7 : decode cX3_bestWeek 7 = .ok (.iload_n 2, 1) := by decide +kernel
theorem dX3_bestWeek_8 : decode cX3_bestWeek 8 = .ok (.ifCond .eq 9, 3) := by decide +kernel
theorem dX3_bestWeek_11 : decode cX3_bestWeek 11 = .ok (.aload_n 0, 1) := by decide +kernel
theorem dX3_bestWeek_12 : decode cX3_bestWeek 12 = .ok (.iload_n 2, 1) := by decide +kernel
theorem dX3_bestWeek_13 : decode cX3_bestWeek 13 = .ok (.invokevirtual 51, 3) := by decide +kernel
theorem dX3_bestWeek_16 : decode cX3_bestWeek 16 = .ok (.ireturn, 1) := by decide +kernel
theorem dX3_bestWeek_17 : decode cX3_bestWeek 17 = .ok (.bipush (-9), 2) := by decide +kernel
theorem dX3_bestWeek_19 : decode cX3_bestWeek 19 = .ok (.istore_n 3, 1) := by decide +kernel
theorem dX3_bestWeek_20 : decode cX3_bestWeek 20 = .ok (.iconst 0, 1) := by decide +kernel
theorem dX3_bestWeek_21 : decode cX3_bestWeek 21 = .ok (.istore 4, 2) := by decide +kernel
theorem dX3_bestWeek_23 : decode cX3_bestWeek 23 = .ok (.bipush (-9), 2) := by decide +kernel
theorem dX3_bestWeek_25 : decode cX3_bestWeek 25 = .ok (.istore 5, 2) := by decide +kernel
theorem dX3_bestWeek_27 : decode cX3_bestWeek 27 = .ok (.aload_n 0, 1) := by decide +kernel
theorem dX3_bestWeek_28 : decode cX3_bestWeek 28 = .ok (.getfield 12, 3) := by decide +kernel
theorem dX3_bestWeek_31 : decode cX3_bestWeek 31 = .ok (.getfield 63, 3) := by decide +kernel
theorem dX3_bestWeek_34 : decode cX3_bestWeek 34 = .ok (.aload_n 0, 1) := by decide +kernel
theorem dX3_bestWeek_35 : decode cX3_bestWeek 35 = .ok (.getfield 12, 3) := by decide +kernel
theorem dX3_bestWeek_38 : decode cX3_bestWeek 38 = .ok (.getfield 63, 3) := by decide +kernel
theorem dX3_bestWeek_41 : decode cX3_bestWeek 41 = .ok (.imul, 1) := by decide +kernel
theorem dX3_bestWeek_42 : decode cX3_bestWeek 42 = .ok (.aload_n 0, 1) := by decide +kernel
theorem dX3_bestWeek_43 : decode cX3_bestWeek 43 = .ok (.getfield 12, 3) := by decide +kernel
theorem dX3_bestWeek_46 : decode cX3_bestWeek 46 = .ok (.getfield 63, 3) := by decide +kernel
theorem dX3_bestWeek_49 : decode cX3_bestWeek 49 = .ok (.imul, 1) := by decide +kernel
theorem dX3_bestWeek_50 : decode cX3_bestWeek 50 = .ok (.istore 6, 2) := by decide +kernel
theorem dX3_bestWeek_52 : decode cX3_bestWeek 52 = .ok (.iconst 0, 1) := by decide +kernel
theorem dX3_bestWeek_53 : decode cX3_bestWeek 53 = .ok (.istore 7, 2) := by decide +kernel
theorem dX3_bestWeek_55 : decode cX3_bestWeek 55 = .ok (.iload 7, 2) := by decide +kernel
theorem dX3_bestWeek_57 : decode cX3_bestWeek 57 = .ok (.iload 6, 2) := by decide +kernel
theorem dX3_bestWeek_59 : decode cX3_bestWeek 59 = .ok (.if_icmp .ge 70, 3) := by decide +kernel
theorem dX3_bestWeek_62 : decode cX3_bestWeek 62 = .ok (.aload_n 0, 1) := by decide +kernel
theorem dX3_bestWeek_63 : decode cX3_bestWeek 63 = .ok (.iload 7, 2) := by decide +kernel
theorem dX3_bestWeek_65 : decode cX3_bestWeek 65 = .ok (.invokevirtual 193, 3) := by decide +kernel
theorem dX3_bestWeek_68 : decode cX3_bestWeek 68 = .ok (.aload_n 0, 1) := by decide +kernel
theorem dX3_bestWeek_69 : decode cX3_bestWeek 69 = .ok (.getfield 16, 3) := by decide +kernel
theorem dX3_bestWeek_72 : decode cX3_bestWeek 72 = .ok (.getfield 131, 3) := by decide +kernel
theorem dX3_bestWeek_75 : decode cX3_bestWeek 75 = .ok (.getfield 143, 3) := by decide +kernel
theorem dX3_bestWeek_78 : decode cX3_bestWeek 78 = .ok (.bipush 100, 2) := by decide +kernel
theorem dX3_bestWeek_80 : decode cX3_bestWeek 80 = .ok (.imul, 1) := by decide +kernel
theorem dX3_bestWeek_81 : decode cX3_bestWeek 81 = .ok (.aload_n 0, 1) := by decide +kernel
theorem dX3_bestWeek_82 : decode cX3_bestWeek 82 = .ok (.getfield 16, 3) := by decide +kernel
theorem dX3_bestWeek_85 : decode cX3_bestWeek 85 = .ok (.getfield 121, 3) := by decide +kernel
theorem dX3_bestWeek_88 : decode cX3_bestWeek 88 = .ok (.isub, 1) := by decide +kernel
theorem dX3_bestWeek_89 : decode cX3_bestWeek 89 = .ok (.istore 8, 2) := by decide +kernel
theorem dX3_bestWeek_91 : decode cX3_bestWeek 91 = .ok (.iload_n 3, 1) := by decide +kernel
theorem dX3_bestWeek_92 : decode cX3_bestWeek 92 = .ok (.bipush (-9), 2) := by decide +kernel
theorem dX3_bestWeek_94 : decode cX3_bestWeek 94 = .ok (.if_icmp .eq 10, 3) := by decide +kernel
theorem dX3_bestWeek_97 : decode cX3_bestWeek 97 = .ok (.iload 8, 2) := by decide +kernel
theorem dX3_bestWeek_99 : decode cX3_bestWeek 99 = .ok (.iload 4, 2) := by decide +kernel
theorem dX3_bestWeek_101 : decode cX3_bestWeek 101 = .ok (.if_icmp .le 22, 3) := by decide +kernel
theorem dX3_bestWeek_104 : decode cX3_bestWeek 104 = .ok (.iload 7, 2) := by decide +kernel
theorem dX3_bestWeek_106 : decode cX3_bestWeek 106 = .ok (.istore_n 3, 1) := by decide +kernel
theorem dX3_bestWeek_107 : decode cX3_bestWeek 107 = .ok (.iload 8, 2) := by decide +kernel
theorem dX3_bestWeek_109 : decode cX3_bestWeek 109 = .ok (.istore 4, 2) := by decide +kernel
theorem dX3_bestWeek_111 : decode cX3_bestWeek 111 = .ok (.aload_n 0, 1) := by decide +kernel
theorem dX3_bestWeek_112 : decode cX3_bestWeek 112 = .ok (.getfield 16, 3) := by decide +kernel
theorem dX3_bestWeek_115 : decode cX3_bestWeek 115 = .ok (.getfield 131, 3) := by decide +kernel
theorem dX3_bestWeek_118 : decode cX3_bestWeek 118 = .ok (.getfield 143, 3) := by decide +kernel
theorem dX3_bestWeek_121 : decode cX3_bestWeek 121 = .ok (.istore 5, 2) := by decide +kernel
theorem dX3_bestWeek_123 : decode cX3_bestWeek 123 = .ok (.iinc 7 1, 3) := by decide +kernel
theorem dX3_bestWeek_126 : decode cX3_bestWeek 126 = .ok (.goto (-71), 3) := by decide +kernel
theorem dX3_bestWeek_129 : decode cX3_bestWeek 129 = .ok (.iload_n 1, 1) := by decide +kernel
theorem dX3_bestWeek_130 : decode cX3_bestWeek 130 = .ok (.iconst (-1), 1) := by decide +kernel
theorem dX3_bestWeek_131 : decode cX3_bestWeek 131 = .ok (.if_icmp .eq 9, 3) := by decide +kernel
theorem dX3_bestWeek_134 : decode cX3_bestWeek 134 = .ok (.iload_n 3, 1) := by decide +kernel
theorem dX3_bestWeek_135 : decode cX3_bestWeek 135 = .ok (.bipush (-9), 2) := by decide +kernel
theorem dX3_bestWeek_137 : decode cX3_bestWeek 137 = .ok (.if_icmp .ne 8, 3) := by decide +kernel
theorem dX3_bestWeek_140 : decode cX3_bestWeek 140 = .ok (.iload 5, 2) := by decide +kernel
theorem dX3_bestWeek_142 : decode cX3_bestWeek 142 = .ok (.goto 9, 3) := by decide +kernel
theorem dX3_bestWeek_145 : decode cX3_bestWeek 145 = .ok (.aload_n 0, 1) := by decide +kernel
theorem dX3_bestWeek_146 : decode cX3_bestWeek 146 = .ok (.iload_n 3, 1) := by decide +kernel
theorem dX3_bestWeek_147 : decode cX3_bestWeek 147 = .ok (.iload_n 1, 1) := by decide +kernel
theorem dX3_bestWeek_148 : decode cX3_bestWeek 148 = .ok (.invokevirtual 196, 3) := by decide +kernel
theorem dX3_bestWeek_151 : decode cX3_bestWeek 151 = .ok (.ireturn, 1) := by decide +kernel
theorem dX3_bestTune_0 : decode cX3_bestTune 0 = .ok (.iload_n 1, 1) := by decide +kernel
theorem dX3_bestTune_1 : decode cX3_bestTune 1 = .ok (.invokestatic 160, 3) := by decide +kernel
theorem dX3_bestTune_4 : decode cX3_bestTune 4 = .ok (.istore_n 2, 1) := by decide +kernel
theorem dX3_bestTune_5 : decode cX3_bestTune 5 = .ok (.iload_n 2, 1) := by decide +kernel
theorem dX3_bestTune_6 : decode cX3_bestTune 6 = .ok (.ifCond .eq 9, 3) := by decide +kernel
theorem dX3_bestTune_9 : decode cX3_bestTune 9 = .ok (.aload_n 0, 1) := by decide +kernel
theorem dX3_bestTune_10 : decode cX3_bestTune 10 = .ok (.iload_n 2, 1) := by decide +kernel
theorem dX3_bestTune_11 : decode cX3_bestTune 11 = .ok (.invokevirtual 51, 3) := by decide +kernel
theorem dX3_bestTune_14 : decode cX3_bestTune 14 = .ok (.ireturn, 1) := by decide +kernel
theorem dX3_bestTune_15 : decode cX3_bestTune 15 = .ok (.iconst 0, 1) := by decide +kernel
theorem dX3_bestTune_16 : decode cX3_bestTune 16 = .ok (.istore_n 3, 1) := by decide +kernel
theorem dX3_bestTune_17 : decode cX3_bestTune 17 = .ok (.iconst (-1), 1) := by decide +kernel
theorem dX3_bestTune_18 : decode cX3_bestTune 18 = .ok (.istore 4, 2) := by decide +kernel
theorem dX3_bestTune_20 : decode cX3_bestTune 20 = .ok (.iconst 0, 1) := by decide +kernel
theorem dX3_bestTune_21 : decode cX3_bestTune 21 = .ok (.istore 5, 2) := by decide +kernel
theorem dX3_bestTune_23 : decode cX3_bestTune 23 = .ok (.iload 5, 2) := by decide +kernel
theorem dX3_bestTune_25 : decode cX3_bestTune 25 = .ok (.bipush 10, 2) := by decide +kernel
theorem dX3_bestTune_27 : decode cX3_bestTune 27 = .ok (.if_icmp .ge 62, 3) := by decide +kernel
theorem dX3_bestTune_30 : decode cX3_bestTune 30 = .ok (.aload_n 0, 1) := by decide +kernel
theorem dX3_bestTune_31 : decode cX3_bestTune 31 = .ok (.invokevirtual 178, 3) := by decide +kernel
theorem dX3_bestTune_34 : decode cX3_bestTune 34 = .ok (.aload_n 0, 1) := by decide +kernel
theorem dX3_bestTune_35 : decode cX3_bestTune 35 = .ok (.getfield 16, 3) := by decide +kernel
theorem dX3_bestTune_38 : decode cX3_bestTune 38 = .ok (.iload 5, 2) := by decide +kernel
theorem dX3_bestTune_40 : decode cX3_bestTune 40 = .ok (.putfield 118, 3) := by decide +kernel
theorem dX3_bestTune_43 : decode cX3_bestTune 43 = .ok (.aload_n 0, 1) := by decide +kernel
theorem dX3_bestTune_44 : decode cX3_bestTune 44 = .ok (.getfield 16, 3) := by decide +kernel
theorem dX3_bestTune_47 : decode cX3_bestTune 47 = .ok (.iload_n 1, 1) := by decide +kernel
theorem dX3_bestTune_48 : decode cX3_bestTune 48 = .ok (.bipush 127, 2) := by decide +kernel
theorem dX3_bestTune_50 : decode cX3_bestTune 50 = .ok (.invokevirtual 140, 3) := by decide +kernel
theorem dX3_bestTune_53 : decode cX3_bestTune 53 = .ok (.aload_n 0, 1) := by decide +kernel
theorem dX3_bestTune_54 : decode cX3_bestTune 54 = .ok (.getfield 16, 3) := by decide +kernel
theorem dX3_bestTune_57 : decode cX3_bestTune 57 = .ok (.getfield 131, 3) := by decide +kernel
theorem dX3_bestTune_60 : decode cX3_bestTune 60 = .ok (.getfield 143, 3) := by decide +kernel
theorem dX3_bestTune_63 : decode cX3_bestTune 63 = .ok (.iload 4, 2) := by decide +kernel
theorem dX3_bestTune_65 : decode cX3_bestTune 65 = .ok (.if_icmp .le 18, 3) := by decide +kernel
theorem dX3_bestTune_68 : decode cX3_bestTune 68 = .ok (.aload_n 0, 1) := by decide +kernel
theorem dX3_bestTune_69 : decode cX3_bestTune 69 = .ok (.getfield 16, 3) := by decide +kernel
theorem dX3_bestTune_72 : decode cX3_bestTune 72 = .ok (.getfield 131, 3) := by decide +kernel
theorem dX3_bestTune_75 : decode cX3_bestTune 75 = .ok (.getfield 143, 3) := by decide +kernel
theorem dX3_bestTune_78 : decode cX3_bestTune 78 = .ok (.istore 4, 2) := by decide +kernel
theorem dX3_bestTune_80 : decode cX3_bestTune 80 = .ok (.iload 5, 2) := by decide +kernel
theorem dX3_bestTune_82 : decode cX3_bestTune 82 = .ok (.istore_n 3, 1) := by decide +kernel
theorem dX3_bestTune_83 : decode cX3_bestTune 83 = .ok (.iinc 5 1, 3) := by decide +kernel
theorem dX3_bestTune_86 : decode cX3_bestTune 86 = .ok (.goto (-63), 3) := by decide +kernel
theorem dX3_bestTune_89 : decode cX3_bestTune 89 = .ok (.iload_n 3, 1) := by decide +kernel
theorem dX3_bestTune_90 : decode cX3_bestTune 90 = .ok (.ireturn, 1) := by decide +kernel
theorem dX3_bestHour_0 : decode cX3_bestHour 0 = .ok (.aload_n 0, 1) := by decide +kernel
theorem dX3_bestHour_1 : decode cX3_bestHour 1 = .ok (.iload_n 1, 1) := by decide +kernel
theorem dX3_bestHour_2 : decode cX3_bestHour 2 = .ok (.invokevirtual 77, 3) := by decide +kernel
theorem dX3_bestHour_5 : decode cX3_bestHour 5 = .ok (.iload_n 2, 1) := by decide +kernel
theorem dX3_bestHour_6 : decode cX3_bestHour 6 = .ok (.invokestatic 160, 3) := by decide +kernel
theorem dX3_bestHour_9 : decode cX3_bestHour 9 = .ok (.invokestatic 83, 3) := by decide +kernel
theorem dX3_bestHour_12 : decode cX3_bestHour 12 = .ok (.istore_n 3, 1) := by decide +kernel
theorem dX3_bestHour_13 : decode cX3_bestHour 13 = .ok (.iload_n 3, 1) := by decide +kernel
theorem dX3_bestHour_14 : decode cX3_bestHour 14 = .ok (.ifCond .eq 9, 3) := by decide +kernel
theorem dX3_bestHour_17 : decode cX3_bestHour 17 = .ok (.aload_n 0, 1) := by decide +kernel
theorem dX3_bestHour_18 : decode cX3_bestHour 18 = .ok (.iload_n 3, 1) := by decide +kernel
theorem dX3_bestHour_19 : decode cX3_bestHour 19 = .ok (.invokevirtual 51, 3) := by decide +kernel
theorem dX3_bestHour_22 : decode cX3_bestHour 22 = .ok (.ireturn, 1) := by decide +kernel
theorem dX3_bestHour_23 : decode cX3_bestHour 23 = .ok (.iconst 0, 1) := by decide +kernel
theorem dX3_bestHour_24 : decode cX3_bestHour 24 = .ok (.istore 4, 2) := by decide +kernel
theorem dX3_bestHour_26 : decode cX3_bestHour 26 = .ok (.iconst (-1), 1) := by decide +kernel
theorem dX3_bestHour_27 : decode cX3_bestHour 27 = .ok (.istore 5, 2) := by decide +kernel
theorem dX3_bestHour_29 : decode cX3_bestHour 29 = .ok (.iconst 0, 1) := by decide +kernel
theorem dX3_bestHour_30 : decode cX3_bestHour 30 = .ok (.istore 6, 2) := by decide +kernel
theorem dX3_bestHour_32 : decode cX3_bestHour 32 = .ok (.iload 6, 2) := by decide +kernel
theorem dX3_bestHour_34 : decode cX3_bestHour 34 = .ok (.bipush 24, 2) := by decide +kernel
theorem dX3_bestHour_36 : decode cX3_bestHour 36 = .ok (.if_icmp .ge 64, 3) := by decide +kernel
theorem dX3_bestHour_39 : decode cX3_bestHour 39 = .ok (.aload_n 0, 1) := by decide +kernel
theorem dX3_bestHour_40 : decode cX3_bestHour 40 = .ok (.invokevirtual 178, 3) := by decide +kernel
theorem dX3_bestHour_43 : decode cX3_bestHour 43 = .ok (.aload_n 0, 1) := by decide +kernel
theorem dX3_bestHour_44 : decode cX3_bestHour 44 = .ok (.getfield 16, 3) := by decide +kernel
theorem dX3_bestHour_47 : decode cX3_bestHour 47 = .ok (.iload_n 1, 1) := by decide +kernel
theorem dX3_bestHour_48 : decode cX3_bestHour 48 = .ok (.iload 6, 2) := by decide +kernel
theorem dX3_bestHour_50 : decode cX3_bestHour 50 = .ok (.invokevirtual 127, 3) := by decide +kernel
theorem dX3_bestHour_53 : decode cX3_bestHour 53 = .ok (.aload_n 0, 1) := by decide +kernel
theorem dX3_bestHour_54 : decode cX3_bestHour 54 = .ok (.getfield 16, 3) := by decide +kernel
theorem dX3_bestHour_57 : decode cX3_bestHour 57 = .ok (.iload_n 2, 1) := by decide +kernel
theorem dX3_bestHour_58 : decode cX3_bestHour 58 = .ok (.bipush 127, 2) := by decide +kernel
theorem dX3_bestHour_60 : decode cX3_bestHour 60 = .ok (.invokevirtual 140, 3) := by decide +kernel
theorem dX3_bestHour_63 : decode cX3_bestHour 63 = .ok (.aload_n 0, 1) := by decide +kernel
theorem dX3_bestHour_64 : decode cX3_bestHour 64 = .ok (.getfield 16, 3) := by decide +kernel
theorem dX3_bestHour_67 : decode cX3_bestHour 67 = .ok (.getfield 131, 3) := by decide +kernel
theorem dX3_bestHour_70 : decode cX3_bestHour 70 = .ok (.getfield 143, 3) := by decide +kernel
theorem dX3_bestHour_73 : decode cX3_bestHour 73 = .ok (.iload 5, 2) := by decide +kernel
theorem dX3_bestHour_75 : decode cX3_bestHour 75 = .ok (.if_icmp .le 19, 3) := by decide +kernel
theorem dX3_bestHour_78 : decode cX3_bestHour 78 = .ok (.aload_n 0, 1) := by decide +kernel
theorem dX3_bestHour_79 : decode cX3_bestHour 79 = .ok (.getfield 16, 3) := by decide +kernel
theorem dX3_bestHour_82 : decode cX3_bestHour 82 = .ok (.getfield 131, 3) := by decide +kernel
theorem dX3_bestHour_85 : decode cX3_bestHour 85 = .ok (.getfield 143, 3) := by decide +kernel
theorem dX3_bestHour_88 : decode cX3_bestHour 88 = .ok (.istore 5, 2) := by decide +kernel
theorem dX3_bestHour_90 : decode cX3_bestHour 90 = .ok (.iload 6, 2) := by decide +kernel
theorem dX3_bestHour_92 : decode cX3_bestHour 92 = .ok (.istore 4, 2) := by decide +kernel
theorem dX3_bestHour_94 : decode cX3_bestHour 94 = .ok (.iinc 6 1, 3) := by decide +kernel
theorem dX3_bestHour_97 : decode cX3_bestHour 97 = .ok (.goto (-65), 3) := by decide +kernel
theorem dX3_bestHour_100 : decode cX3_bestHour 100 = .ok (.iload 4, 2) := by decide +kernel
theorem dX3_bestHour_102 : decode cX3_bestHour 102 = .ok (.ireturn, 1) := by decide +kernel
theorem dX3_worst_0 : decode cX3_worst 0 = .ok (.iload_n 1, 1) := by decide +kernel
theorem dX3_worst_1 : decode cX3_worst 1 = .ok (.invokestatic 160, 3) := by decide +kernel
theorem dX3_worst_4 : decode cX3_worst 4 = .ok (.istore_n 2, 1) := by decide +kernel
theorem dX3_worst_5 : decode cX3_worst 5 = .ok (.iload_n 2, 1) := by decide +kernel
theorem dX3_worst_6 : decode cX3_worst 6 = .ok (.ifCond .eq 9, 3) := by decide +kernel
theorem dX3_worst_9 : decode cX3_worst 9 = .ok (.aload_n 0, 1) := by decide +kernel
theorem dX3_worst_10 : decode cX3_worst 10 = .ok (.iload_n 2, 1) := by decide +kernel
theorem dX3_worst_11 : decode cX3_worst 11 = .ok (.invokevirtual 51, 3) := by decide +kernel
theorem dX3_worst_14 : decode cX3_worst 14 = .ok (.ireturn, 1) := by decide +kernel
theorem dX3_worst_15 : decode cX3_worst 15 = .ok (.aload_n 0, 1) := by decide +kernel
theorem dX3_worst_16 : decode cX3_worst 16 = .ok (.iload_n 1, 1) := by decide +kernel
theorem dX3_worst_17 : decode cX3_worst 17 = .ok (.bipush 127, 2) := by decide +kernel
theorem dX3_worst_19 : decode cX3_worst 19 = .ok (.invokevirtual 163, 3) := by decide +kernel
theorem dX3_worst_22 : decode cX3_worst 22 = .ok (.aload_n 0, 1) := by decide +kernel
theorem dX3_worst_23 : decode cX3_worst 23 = .ok (.getfield 16, 3) := by decide +kernel
theorem dX3_worst_26 : decode cX3_worst 26 = .ok (.getfield 121, 3) := by decide +kernel
theorem dX3_worst_29 : decode cX3_worst 29 = .ok (.istore_n 3, 1) := by decide +kernel
theorem dX3_worst_30 : decode cX3_worst 30 = .ok (.bipush (-9), 2) := by decide +kernel
theorem dX3_worst_32 : decode cX3_worst 32 = .ok (.istore 4, 2) := by decide +kernel
theorem dX3_worst_34 : decode cX3_worst 34 = .ok (.iconst 0, 1) := by decide +kernel
theorem dX3_worst_35 : decode cX3_worst 35 = .ok (.istore 5, 2) := by decide +kernel
theorem dX3_worst_37 : decode cX3_worst 37 = .ok (.iload 5, 2) := by decide +kernel
theorem dX3_worst_39 : decode cX3_worst 39 = .ok (.aload_n 0, 1) := by decide +kernel
theorem dX3_worst_40 : decode cX3_worst 40 = .ok (.getfield 12, 3) := by decide +kernel
theorem dX3_worst_43 : decode cX3_worst 43 = .ok (.getfield 63, 3) := by decide +kernel
theorem dX3_worst_46 : decode cX3_worst 46 = .ok (.if_icmp .ge 44, 3) := by decide +kernel
theorem dX3_worst_49 : decode cX3_worst 49 = .ok (.aload_n 0, 1) := by decide +kernel
theorem dX3_worst_50 : decode cX3_worst 50 = .ok (.iload_n 1, 1) := by decide +kernel
theorem dX3_worst_51 : decode cX3_worst 51 = .ok (.iconst 1, 1) := by decide +kernel
theorem dX3_worst_52 : decode cX3_worst 52 = .ok (.iload 5, 2) := by decide +kernel
theorem dX3_worst_54 : decode cX3_worst 54 = .ok (.ishl, 1) := by decide +kernel
theorem dX3_worst_55 : decode cX3_worst 55 = .ok (.invokestatic 199, 3) := by decide +kernel
theorem dX3_worst_58 : decode cX3_worst 58 = .ok (.invokevirtual 163, 3) := by decide +kernel
theorem dX3_worst_61 : decode cX3_worst 61 = .ok (.aload_n 0, 1) := by decide +kernel
theorem dX3_worst_62 : decode cX3_worst 62 = .ok (.getfield 16, 3) := by decide +kernel
theorem dX3_worst_65 : decode cX3_worst 65 = .ok (.getfield 121, 3) := by decide +kernel
theorem dX3_worst_68 : decode cX3_worst 68 = .ok (.iload_n 3, 1) := by decide +kernel
theorem dX3_worst_69 : decode cX3_worst 69 = .ok (.if_icmp .ge 15, 3) := by decide +kernel
theorem dX3_worst_72 : decode cX3_worst 72 = .ok (.aload_n 0, 1) := by decide +kernel
theorem dX3_worst_73 : decode cX3_worst 73 = .ok (.getfield 16, 3) := by decide +kernel
theorem dX3_worst_76 : decode cX3_worst 76 = .ok (.getfield 121, 3) := by decide +kernel
theorem dX3_worst_79 : decode cX3_worst 79 = .ok (.istore_n 3, 1) := by decide +kernel
theorem dX3_worst_80 : decode cX3_worst 80 = .ok (.iload 5, 2) := by decide +kernel
theorem dX3_worst_82 : decode cX3_worst 82 = .ok (.istore 4, 2) := by decide +kernel
theorem dX3_worst_84 : decode cX3_worst 84 = .ok (.iinc 5 1, 3) := by decide +kernel
theorem dX3_worst_87 : decode cX3_worst 87 = .ok (.goto (-50), 3) := by decide +kernel
theorem dX3_worst_90 : decode cX3_worst 90 = .ok (.iload 4, 2) := by decide +kernel
theorem dX3_worst_92 : decode cX3_worst 92 = .ok (.ireturn, 1) := by decide +kernel
theorem dX3_keepAway_0 : decode cX3_keepAway 0 = .ok (.iload_n 1, 1) := by decide +kernel
theorem dX3_keepAway_1 : decode cX3_keepAway 1 = .ok (.invokestatic 160, 3) := by decide +kernel
theorem dX3_keepAway_4 : decode cX3_keepAway 4 = .ok (.iload_n 2, 1) := by decide +kernel
theorem dX3_keepAway_5 : decode cX3_keepAway 5 = .ok (.iconst 1, 1) := by decide +kernel
theorem dX3_keepAway_6 : decode cX3_keepAway 6 = .ok (.invokestatic 80, 3) := by decide +kernel
theorem dX3_keepAway_9 : decode cX3_keepAway 9 = .ok (.invokestatic 83, 3) := by decide +kernel
theorem dX3_keepAway_12 : decode cX3_keepAway 12 = .ok (.istore_n 3, 1) := by decide +kernel
theorem dX3_keepAway_13 : decode cX3_keepAway 13 = .ok (.iload_n 3, 1) := by decide +kernel
theorem dX3_keepAway_14 : decode cX3_keepAway 14 = .ok (.ifCond .ne 16, 3) := by decide +kernel
theorem dX3_keepAway_17 : decode cX3_keepAway 17 = .ok (.aload_n 0, 1) := by decide +kernel
theorem dX3_keepAway_18 : decode cX3_keepAway 18 = .ok (.getfield 12, 3) := by decide +kernel
theorem dX3_keepAway_21 : decode cX3_keepAway 21 = .ok (.invokevirtual 149, 3) := by decide +kernel
theorem dX3_keepAway_24 : decode cX3_keepAway 24 = .ok (.ifCond .eq 6, 3) := by decide +kernel
theorem dX3_keepAway_27 : decode cX3_keepAway 27 = .ok (.bipush (-3), 2) := by decide +kernel
theorem dX3_keepAway_29 : decode cX3_keepAway 29 = .ok (.istore_n 3, 1) := by decide +kernel
theorem dX3_keepAway_30 : decode cX3_keepAway 30 = .ok (.iload_n 3, 1) := by decide +kernel
theorem dX3_keepAway_31 : decode cX3_keepAway 31 = .ok (.ifCond .eq 9, 3) := by decide +kernel
theorem dX3_keepAway_34 : decode cX3_keepAway 34 = .ok (.aload_n 0, 1) := by decide +kernel
theorem dX3_keepAway_35 : decode cX3_keepAway 35 = .ok (.iload_n 3, 1) := by decide +kernel
theorem dX3_keepAway_36 : decode cX3_keepAway 36 = .ok (.invokevirtual 51, 3) := by decide +kernel
theorem dX3_keepAway_39 : decode cX3_keepAway 39 = .ok (.ireturn, 1) := by decide +kernel
theorem dX3_keepAway_40 : decode cX3_keepAway 40 = .ok (.iconst 0, 1) := by decide +kernel
theorem dX3_keepAway_41 : decode cX3_keepAway 41 = .ok (.istore 4, 2) := by decide +kernel
theorem dX3_keepAway_43 : decode cX3_keepAway 43 = .ok (.iload 4, 2) := by decide +kernel
theorem dX3_keepAway_45 : decode cX3_keepAway 45 = .ok (.aload_n 0, 1) := by decide +kernel
theorem dX3_keepAway_46 : decode cX3_keepAway 46 = .ok (.getfield 12, 3) := by decide +kernel
theorem dX3_keepAway_49 : decode cX3_keepAway 49 = .ok (.getfield 63, 3) := by decide +kernel
theorem dX3_keepAway_52 : decode cX3_keepAway 52 = .ok (.if_icmp .gt 67, 3) := by decide +kernel
theorem dX3_keepAway_55 : decode cX3_keepAway 55 = .ok (.iconst 0, 1) := by decide +kernel
theorem dX3_keepAway_56 : decode cX3_keepAway 56 = .ok (.istore 5, 2) := by decide +kernel
theorem dX3_keepAway_58 : decode cX3_keepAway 58 = .ok (.iload 5, 2) := by decide +kernel
theorem dX3_keepAway_60 : decode cX3_keepAway 60 = .ok (.iconst 1, 1) := by decide +kernel
theorem dX3_keepAway_61 : decode cX3_keepAway 61 = .ok (.aload_n 0, 1) := by decide +kernel
theorem dX3_keepAway_62 : decode cX3_keepAway 62 = .ok (.getfield 12, 3) := by decide +kernel
theorem dX3_keepAway_65 : decode cX3_keepAway 65 = .ok (.getfield 63, 3) := by decide +kernel
theorem dX3_keepAway_68 : decode cX3_keepAway 68 = .ok (.ishl, 1) := by decide +kernel
theorem dX3_keepAway_69 : decode cX3_keepAway 69 = .ok (.if_icmp .ge 44, 3) := by decide +kernel
theorem dX3_keepAway_72 : decode cX3_keepAway 72 = .ok (.iload 5, 2) := by decide +kernel
theorem dX3_keepAway_74 : decode cX3_keepAway 74 = .ok (.invokestatic 202, 3) := by decide +kernel
theorem dX3_keepAway_77 : decode cX3_keepAway 77 = .ok (.iload 4, 2) := by decide +kernel
theorem dX3_keepAway_79 : decode cX3_keepAway 79 = .ok (.if_icmp .ne 28, 3) := by decide +kernel
theorem dX3_keepAway_82 : decode cX3_keepAway 82 = .ok (.aload_n 0, 1) := by decide +kernel
theorem dX3_keepAway_83 : decode cX3_keepAway 83 = .ok (.iload_n 1, 1) := by decide +kernel
theorem dX3_keepAway_84 : decode cX3_keepAway 84 = .ok (.iload 5, 2) := by decide +kernel
theorem dX3_keepAway_86 : decode cX3_keepAway 86 = .ok (.invokestatic 199, 3) := by decide +kernel
theorem dX3_keepAway_89 : decode cX3_keepAway 89 = .ok (.invokevirtual 207, 3) := by decide +kernel
theorem dX3_keepAway_92 : decode cX3_keepAway 92 = .ok (.ifCond .eq 15, 3) := by decide +kernel
theorem dX3_keepAway_95 : decode cX3_keepAway 95 = .ok (.iload_n 2, 1) := by decide +kernel
theorem dX3_keepAway_96 : decode cX3_keepAway 96 = .ok (.ifCond .ne 8, 3) := by decide +kernel
theorem dX3_keepAway_99 : decode cX3_keepAway 99 = .ok (.iload 5, 2) := by decide +kernel
theorem dX3_keepAway_101 : decode cX3_keepAway 101 = .ok (.goto 5, 3) := by decide +kernel
theorem dX3_keepAway_104 : decode cX3_keepAway 104 = .ok (.iload 4, 2) := by decide +kernel
theorem dX3_keepAway_106 : decode cX3_keepAway 106 = .ok (.ireturn, 1) := by decide +kernel
theorem dX3_keepAway_107 : decode cX3_keepAway 107 = .ok (.iinc 5 1, 3) := by decide +kernel
theorem dX3_keepAway_110 : decode cX3_keepAway 110 = .ok (.goto (-52), 3) := by decide +kernel
theorem dX3_keepAway_113 : decode cX3_keepAway 113 = .ok (.iinc 4 1, 3) := by decide +kernel
theorem dX3_keepAway_116 : decode cX3_keepAway 116 = .ok (.goto (-73), 3) := by decide +kernel
theorem dX3_keepAway_119 : decode cX3_keepAway 119 = .ok (.bipush (-9), 2) := by decide +kernel
theorem dX3_keepAway_121 : decode cX3_keepAway 121 = .ok (.ireturn, 1) := by decide +kernel
theorem dX3_byTurns_0 : decode cX3_byTurns 0 = .ok (.aload_n 0, 1) := by decide +kernel
theorem dX3_byTurns_1 : decode cX3_byTurns 1 = .ok (.iload_n 1, 1) := by decide +kernel
theorem dX3_byTurns_2 : decode cX3_byTurns 2 = .ok (.invokevirtual 77, 3) := by decide +kernel
theorem dX3_byTurns_5 : decode cX3_byTurns 5 = .ok (.aload_n 0, 1) := by decide +kernel
theorem dX3_byTurns_6 : decode cX3_byTurns 6 = .ok (.iload_n 2, 1) := by decide +kernel
theorem dX3_byTurns_7 : decode cX3_byTurns 7 = .ok (.invokevirtual 77, 3) := by decide +kernel
theorem dX3_byTurns_10 : decode cX3_byTurns 10 = .ok (.invokestatic 83, 3) := by decide +kernel
theorem dX3_byTurns_13 : decode cX3_byTurns 13 = .ok (.istore 4, 2) := by decide +kernel
theorem dX3_byTurns_15 : decode cX3_byTurns 15 = .ok (.iload 4, 2) := by decide +kernel
theorem dX3_byTurns_17 : decode cX3_byTurns 17 = .ok (.ifCond .ne 11, 3) := by decide +kernel
theorem dX3_byTurns_20 : decode cX3_byTurns 20 = .ok (.iload_n 1, 1) := by decide +kernel
theorem dX3_byTurns_21 : decode cX3_byTurns 21 = .ok (.iload_n 2, 1) := by decide +kernel
theorem dX3_byTurns_22 : decode cX3_byTurns 22 = .ok (.if_icmp .ne 6, 3) := by decide +kernel
theorem dX3_byTurns_25 : decode cX3_byTurns 25 = .ok (.iconst (-1), 1) := by decide +kernel
theorem dX3_byTurns_26 : decode cX3_byTurns 26 = .ok (.istore 4, 2) := by decide +kernel
theorem dX3_byTurns_28 : decode cX3_byTurns 28 = .ok (.iload 4, 2) := by decide +kernel
theorem dX3_byTurns_30 : decode cX3_byTurns 30 = .ok (.iload_n 3, 1) := by decide +kernel
theorem dX3_byTurns_31 : decode cX3_byTurns 31 = .ok (.invokestatic 160, 3) := by decide +kernel
theorem dX3_byTurns_34 : decode cX3_byTurns 34 = .ok (.invokestatic 83, 3) := by decide +kernel
theorem dX3_byTurns_37 : decode cX3_byTurns 37 = .ok (.istore 4, 2) := by decide +kernel
theorem dX3_byTurns_39 : decode cX3_byTurns 39 = .ok (.iload 4, 2) := by decide +kernel
theorem dX3_byTurns_41 : decode cX3_byTurns 41 = .ok (.ifCond .eq 10, 3) := by decide +kernel
theorem dX3_byTurns_44 : decode cX3_byTurns 44 = .ok (.aload_n 0, 1) := by decide +kernel
theorem dX3_byTurns_45 : decode cX3_byTurns 45 = .ok (.iload 4, 2) := by decide +kernel
theorem dX3_byTurns_47 : decode cX3_byTurns 47 = .ok (.invokevirtual 51, 3) := by decide +kernel
theorem dX3_byTurns_50 : decode cX3_byTurns 50 = .ok (.ireturn, 1) := by decide +kernel
theorem dX3_byTurns_51 : decode cX3_byTurns 51 = .ok (.iconst 0, 1) := by decide +kernel
theorem dX3_byTurns_52 : decode cX3_byTurns 52 = .ok (.istore 5, 2) := by decide +kernel
theorem dX3_byTurns_54 : decode cX3_byTurns 54 = .ok (.iload 5, 2) := by decide +kernel
theorem dX3_byTurns_56 : decode cX3_byTurns 56 = .ok (.iconst 4, 1) := by decide +kernel
theorem dX3_byTurns_57 : decode cX3_byTurns 57 = .ok (.if_icmp .ge 161, 3) := by decide +kernel
theorem dX3_byTurns_60 : decode cX3_byTurns 60 = .ok (.iload 5, 2) := by decide +kernel
theorem dX3_byTurns_62 : decode cX3_byTurns 62 = .ok (.iconst 2, 1) := by decide +kernel
theorem dX3_byTurns_63 : decode cX3_byTurns 63 = .ok (.idiv, 1) := by decide +kernel
theorem dX3_byTurns_64 : decode cX3_byTurns 64 = .ok (.istore 6, 2) := by decide +kernel
theorem dX3_byTurns_66 : decode cX3_byTurns 66 = .ok (.iload 5, 2) := by decide +kernel
theorem dX3_byTurns_68 : decode cX3_byTurns 68 = .ok (.iconst 2, 1) := by decide +kernel
theorem dX3_byTurns_69 : decode cX3_byTurns 69 = .ok (.irem, 1) := by decide +kernel
theorem dX3_byTurns_70 : decode cX3_byTurns 70 = .ok (.istore 7, 2) := by decide +kernel
theorem dX3_byTurns_72 : decode cX3_byTurns 72 = .ok (.aload_n 0, 1) := by decide +kernel
theorem dX3_byTurns_73 : decode cX3_byTurns 73 = .ok (.iload_n 1, 1) := by decide +kernel
theorem dX3_byTurns_74 : decode cX3_byTurns 74 = .ok (.iload 6, 2) := by decide +kernel
theorem dX3_byTurns_76 : decode cX3_byTurns 76 = .ok (.iload_n 2, 1) := by decide +kernel
theorem dX3_byTurns_77 : decode cX3_byTurns 77 = .ok (.iload 7, 2) := by decide +kernel
theorem dX3_byTurns_79 : decode cX3_byTurns 79 = .ok (.iload_n 3, 1) := by decide +kernel
theorem dX3_byTurns_80 : decode cX3_byTurns 80 = .ok (.invokevirtual 211, 3) := by decide +kernel
theorem dX3_byTurns_83 : decode cX3_byTurns 83 = .ok (.aload_n 0, 1) := by decide +kernel
theorem dX3_byTurns_84 : decode cX3_byTurns 84 = .ok (.getfield 16, 3) := by decide +kernel
theorem dX3_byTurns_87 : decode cX3_byTurns 87 = .ok (.getfield 131, 3) := by decide +kernel
theorem dX3_byTurns_90 : decode cX3_byTurns 90 = .ok (.getfield 172, 3) := by decide +kernel
theorem dX3_byTurns_93 : decode cX3_byTurns 93 = .ok (.iload_n 1, 1) := by decide +kernel
theorem dX3_byTurns_94 : decode cX3_byTurns 94 = .ok (.invokestatic 89, 3) := by decide +kernel
theorem dX3_byTurns_97 : decode cX3_byTurns 97 = .ok (.istore 8, 2) := by decide +kernel
theorem dX3_byTurns_99 : decode cX3_byTurns 99 = .ok (.aload_n 0, 1) := by decide +kernel
theorem dX3_byTurns_100 : decode cX3_byTurns 100 = .ok (.getfield 16, 3) := by decide +kernel
theorem dX3_byTurns_103 : decode cX3_byTurns 103 = .ok (.getfield 131, 3) := by decide +kernel
theorem dX3_byTurns_106 : decode cX3_byTurns 106 = .ok (.getfield 172, 3) := by decide +kernel
theorem dX3_byTurns_109 : decode cX3_byTurns 109 = .ok (.iload_n 2, 1) := by decide +kernel
theorem dX3_byTurns_110 : decode cX3_byTurns 110 = .ok (.invokestatic 89, 3) := by decide +kernel
theorem dX3_byTurns_113 : decode cX3_byTurns 113 = .ok (.istore 9, 2) := by decide +kernel
theorem dX3_byTurns_115 : decode cX3_byTurns 115 = .ok (.aload_n 0, 1) := by decide +kernel
theorem dX3_byTurns_116 : decode cX3_byTurns 116 = .ok (.iload_n 1, 1) := by decide +kernel
theorem dX3_byTurns_117 : decode cX3_byTurns 117 = .ok (.iconst 1, 1) := by decide +kernel
theorem dX3_byTurns_118 : decode cX3_byTurns 118 = .ok (.iload 6, 2) := by decide +kernel
theorem dX3_byTurns_120 : decode cX3_byTurns 120 = .ok (.isub, 1) := by decide +kernel
theorem dX3_byTurns_121 : decode cX3_byTurns 121 = .ok (.iload_n 2, 1) := by decide +kernel
theorem dX3_byTurns_122 : decode cX3_byTurns 122 = .ok (.iload 7, 2) := by decide +kernel
theorem dX3_byTurns_124 : decode cX3_byTurns 124 = .ok (.iload_n 3, 1) := by decide +kernel
theorem dX3_byTurns_125 : decode cX3_byTurns 125 = .ok (.invokevirtual 211, 3) := by decide +kernel
theorem dX3_byTurns_128 : decode cX3_byTurns 128 = .ok (.iload 8, 2) := by decide +kernel
theorem dX3_byTurns_130 : decode cX3_byTurns 130 = .ok (.aload_n 0, 1) := by decide +kernel
theorem dX3_byTurns_131 : decode cX3_byTurns 131 = .ok (.getfield 16, 3) := by decide +kernel
theorem dX3_byTurns_134 : decode cX3_byTurns 134 = .ok (.getfield 131, 3) := by decide +kernel
theorem dX3_byTurns_137 : decode cX3_byTurns 137 = .ok (.getfield 172, 3) := by decide +kernel
theorem dX3_byTurns_140 : decode cX3_byTurns 140 = .ok (.iload_n 1, 1) := by decide +kernel
theorem dX3_byTurns_141 : decode cX3_byTurns 141 = .ok (.invokestatic 89, 3) := by decide +kernel
theorem dX3_byTurns_144 : decode cX3_byTurns 144 = .ok (.if_icmp .lt 7, 3) := by decide +kernel
theorem dX3_byTurns_147 : decode cX3_byTurns 147 = .ok (.iconst 1, 1) := by decide +kernel
theorem dX3_byTurns_148 : decode cX3_byTurns 148 = .ok (.goto 4, 3) := by decide +kernel
theorem dX3_byTurns_151 : decode cX3_byTurns 151 = .ok (.iconst 0, 1) := by decide +kernel
theorem dX3_byTurns_152 : decode cX3_byTurns 152 = .ok (.istore 10, 2) := by decide +kernel
theorem dX3_byTurns_154 : decode cX3_byTurns 154 = .ok (.aload_n 0, 1) := by decide +kernel
theorem dX3_byTurns_155 : decode cX3_byTurns 155 = .ok (.iload_n 1, 1) := by decide +kernel
theorem dX3_byTurns_156 : decode cX3_byTurns 156 = .ok (.iload 6, 2) := by decide +kernel
theorem dX3_byTurns_158 : decode cX3_byTurns 158 = .ok (.iload_n 2, 1) := by decide +kernel
theorem dX3_byTurns_159 : decode cX3_byTurns 159 = .ok (.iconst 1, 1) := by decide +kernel
theorem dX3_byTurns_160 : decode cX3_byTurns 160 = .ok (.iload 7, 2) := by decide +kernel
theorem dX3_byTurns_162 : decode cX3_byTurns 162 = .ok (.isub, 1) := by decide +kernel
theorem dX3_byTurns_163 : decode cX3_byTurns 163 = .ok (.iload_n 3, 1) := by decide +kernel
theorem dX3_byTurns_164 : decode cX3_byTurns 164 = .ok (.invokevirtual 211, 3) := by decide +kernel
theorem dX3_byTurns_167 : decode cX3_byTurns 167 = .ok (.iload 9, 2) := by decide +kernel
theorem dX3_byTurns_169 : decode cX3_byTurns 169 = .ok (.aload_n 0, 1) := by decide +kernel
theorem dX3_byTurns_170 : decode cX3_byTurns 170 = .ok (.getfield 16, 3) := by decide +kernel
theorem dX3_byTurns_173 : decode cX3_byTurns 173 = .ok (.getfield 131, 3) := by decide +kernel
theorem dX3_byTurns_176 : decode cX3_byTurns 176 = .ok (.getfield 172, 3) := by decide +kernel
theorem dX3_byTurns_179 : decode cX3_byTurns 179 = .ok (.iload_n 2, 1) := by decide +kernel
theorem dX3_byTurns_180 : decode cX3_byTurns 180 = .ok (.invokestatic 89, 3) := by decide +kernel
theorem dX3_byTurns_183 : decode cX3_byTurns 183 = .ok (.if_icmp .lt 7, 3) := by decide +kernel
theorem dX3_byTurns_186 : decode cX3_byTurns 186 = .ok (.iconst 1, 1) := by decide +kernel
theorem dX3_byTurns_187 : decode cX3_byTurns 187 = .ok (.goto 4, 3) := by decide +kernel
theorem dX3_byTurns_190 : decode cX3_byTurns 190 = .ok (.iconst 0, 1) := by decide +kernel
theorem dX3_byTurns_191 : decode cX3_byTurns 191 = .ok (.istore 11, 2) := by decide +kernel
theorem dX3_byTurns_193 : decode cX3_byTurns 193 = .ok (.iload 10, 2) := by decide +kernel
theorem dX3_byTurns_195 : decode cX3_byTurns 195 = .ok (.ifCond .eq 17, 3) := by decide +kernel
theorem dX3_byTurns_198 : decode cX3_byTurns 198 = .ok (.iload 11, 2) := by decide +kernel
theorem dX3_byTurns_200 : decode cX3_byTurns 200 = .ok (.ifCond .eq 12, 3) := by decide +kernel
theorem dX3_byTurns_203 : decode cX3_byTurns 203 = .ok (.bipush 10, 2) := by decide +kernel
theorem dX3_byTurns_205 : decode cX3_byTurns 205 = .ok (.iload 6, 2) := by decide +kernel
theorem dX3_byTurns_207 : decode cX3_byTurns 207 = .ok (.imul, 1) := by decide +kernel
theorem dX3_byTurns_208 : decode cX3_byTurns 208 = .ok (.iload 7, 2) := by decide +kernel
theorem dX3_byTurns_210 : decode cX3_byTurns 210 = .ok (.iadd, 1) := by decide +kernel
theorem dX3_byTurns_211 : decode cX3_byTurns 211 = .ok (.ireturn, 1) := by decide +kernel
theorem dX3_byTurns_212 : decode cX3_byTurns 212 = .ok (.iinc 5 1, 3) := by decide +kernel
theorem dX3_byTurns_215 : decode cX3_byTurns 215 = .ok (.goto (-161), 3) := by decide +kernel
theorem dX3_byTurns_218 : decode cX3_byTurns 218 = .ok (.bipush (-9), 2) := by decide +kernel
theorem dX3_byTurns_220 : decode cX3_byTurns 220 = .ok (.ireturn, 1) := by decide +kernel
theorem dX3_never_0 : decode cX3_never 0 = .ok (.iconst 0, 1) := by decide +kernel
theorem dX3_never_1 : decode cX3_never 1 = .ok (.istore_n 1, 1) := by decide +kernel
theorem dX3_never_2 : decode cX3_never 2 = .ok (.iconst 0, 1) := by decide +kernel
theorem dX3_never_3 : decode cX3_never 3 = .ok (.istore_n 2, 1) := by decide +kernel
theorem dX3_never_4 : decode cX3_never 4 = .ok (.iload_n 2, 1) := by decide +kernel
theorem dX3_never_5 : decode cX3_never 5 = .ok (.bipush 8, 2) := by decide +kernel
theorem dX3_never_7 : decode cX3_never 7 = .ok (.if_icmp .ge 40, 3) := by decide +kernel
theorem dX3_never_10 : decode cX3_never 10 = .ok (.aload_n 0, 1) := by decide +kernel
theorem dX3_never_11 : decode cX3_never 11 = .ok (.getfield 12, 3) := by decide +kernel
theorem dX3_never_14 : decode cX3_never 14 = .ok (.getfield 108, 3) := by decide +kernel
theorem dX3_never_17 : decode cX3_never 17 = .ok (.iload_n 2, 1) := by decide +kernel
theorem dX3_never_18 : decode cX3_never 18 = .ok (.invokestatic 89, 3) := by decide +kernel
theorem dX3_never_21 : decode cX3_never 21 = .ok (.ifCond .ne 20, 3) := by decide +kernel
theorem dX3_never_24 : decode cX3_never 24 = .ok (.aload_n 0, 1) := by decide +kernel
theorem dX3_never_25 : decode cX3_never 25 = .ok (.getfield 12, 3) := by decide +kernel
theorem dX3_never_28 : decode cX3_never 28 = .ok (.iload_n 2, 1) := by decide +kernel
theorem dX3_never_29 : decode cX3_never 29 = .ok (.invokevirtual 215, 3) := by decide +kernel
theorem dX3_never_32 : decode cX3_never 32 = .ok (.ifCond .ne 9, 3) := by decide +kernel
theorem dX3_never_35 : decode cX3_never 35 = .ok (.iload_n 1, 1) := by decide +kernel
theorem dX3_never_36 : decode cX3_never 36 = .ok (.iconst 1, 1) := by decide +kernel
theorem dX3_never_37 : decode cX3_never 37 = .ok (.iload_n 2, 1) := by decide +kernel
theorem dX3_never_38 : decode cX3_never 38 = .ok (.ishl, 1) := by decide +kernel
theorem dX3_never_39 : decode cX3_never 39 = .ok (.ior, 1) := by decide +kernel
theorem dX3_never_40 : decode cX3_never 40 = .ok (.istore_n 1, 1) := by decide +kernel
theorem dX3_never_41 : decode cX3_never 41 = .ok (.iinc 2 1, 3) := by decide +kernel
theorem dX3_never_44 : decode cX3_never 44 = .ok (.goto (-40), 3) := by decide +kernel
theorem dX3_never_47 : decode cX3_never 47 = .ok (.iload_n 1, 1) := by decide +kernel
theorem dX3_never_48 : decode cX3_never 48 = .ok (.ireturn, 1) := by decide +kernel
theorem dX3_whose_0 : decode cX3_whose 0 = .ok (.iload_n 1, 1) := by decide +kernel
theorem dX3_whose_1 : decode cX3_whose 1 = .ok (.invokestatic 105, 3) := by decide +kernel
theorem dX3_whose_4 : decode cX3_whose 4 = .ok (.istore_n 2, 1) := by decide +kernel
theorem dX3_whose_5 : decode cX3_whose 5 = .ok (.iload_n 2, 1) := by decide +kernel
theorem dX3_whose_6 : decode cX3_whose 6 = .ok (.ifCond .eq 11, 3) := by decide +kernel
theorem dX3_whose_9 : decode cX3_whose 9 = .ok (.aload_n 0, 1) := by decide +kernel
theorem dX3_whose_10 : decode cX3_whose 10 = .ok (.iload_n 2, 1) := by decide +kernel
theorem dX3_whose_11 : decode cX3_whose 11 = .ok (.invokevirtual 51, 3) := by decide +kernel
theorem dX3_whose_14 : decode cX3_whose 14 = .ok (.goto 8, 3) := by decide +kernel
theorem dX3_whose_17 : decode cX3_whose 17 = .ok (.aload_n 0, 1) := by decide +kernel
theorem dX3_whose_18 : decode cX3_whose 18 = .ok (.iload_n 1, 1) := by decide +kernel
theorem dX3_whose_19 : decode cX3_whose 19 = .ok (.invokevirtual 218, 3) := by decide +kernel
theorem dX3_whose_22 : decode cX3_whose 22 = .ok (.ireturn, 1) := by decide +kernel
theorem dX3_tellsMost_0 : decode cX3_tellsMost 0 = .ok (.bipush (-9), 2) := by decide +kernel
theorem dX3_tellsMost_2 : decode cX3_tellsMost 2 = .ok (.istore_n 1, 1) := by decide +kernel
theorem dX3_tellsMost_3 : decode cX3_tellsMost 3 = .ok (.bipush 8, 2) := by decide +kernel
theorem dX3_tellsMost_5 : decode cX3_tellsMost 5 = .ok (.istore_n 2, 1) := by decide +kernel
theorem dX3_tellsMost_6 : decode cX3_tellsMost 6 = .ok (.iconst 0, 1) := by decide +kernel
theorem dX3_tellsMost_7 : decode cX3_tellsMost 7 = .ok (.istore_n 3, 1) := by decide +kernel
theorem dX3_tellsMost_8 : decode cX3_tellsMost 8 = .ok (.iload_n 3, 1) := by decide +kernel
theorem dX3_tellsMost_9 : decode cX3_tellsMost 9 = .ok (.aload_n 0, 1) := by decide +kernel
theorem dX3_tellsMost_10 : decode cX3_tellsMost 10 = .ok (.getfield 12, 3) := by decide +kernel
theorem dX3_tellsMost_13 : decode cX3_tellsMost 13 = .ok (.getfield 63, 3) := by decide +kernel
theorem dX3_tellsMost_16 : decode cX3_tellsMost 16 = .ok (.if_icmp .ge 48, 3) := by decide +kernel
theorem dX3_tellsMost_19 : decode cX3_tellsMost 19 = .ok (.aload_n 0, 1) := by decide +kernel
theorem dX3_tellsMost_20 : decode cX3_tellsMost 20 = .ok (.aload_n 0, 1) := by decide +kernel
theorem dX3_tellsMost_21 : decode cX3_tellsMost 21 = .ok (.getfield 12, 3) := by decide +kernel
theorem dX3_tellsMost_24 : decode cX3_tellsMost 24 = .ok (.iload_n 3, 1) := by decide +kernel
theorem dX3_tellsMost_25 : decode cX3_tellsMost 25 = .ok (.invokevirtual 157, 3) := by decide +kernel
theorem dX3_tellsMost_28 : decode cX3_tellsMost 28 = .ok (.invokevirtual 218, 3) := by decide +kernel
theorem dX3_tellsMost_31 : decode cX3_tellsMost 31 = .ok (.invokestatic 202, 3) := by decide +kernel
theorem dX3_tellsMost_34 : decode cX3_tellsMost 34 = .ok (.istore 4, 2) := by decide +kernel
theorem dX3_tellsMost_36 : decode cX3_tellsMost 36 = .ok (.aload_n 0, 1) := by decide +kernel
theorem dX3_tellsMost_37 : decode cX3_tellsMost 37 = .ok (.getfield 12, 3) := by decide +kernel
theorem dX3_tellsMost_40 : decode cX3_tellsMost 40 = .ok (.iload_n 3, 1) := by decide +kernel
theorem dX3_tellsMost_41 : decode cX3_tellsMost 41 = .ok (.invokevirtual 153, 3) := by decide +kernel
theorem dX3_tellsMost_44 : decode cX3_tellsMost 44 = .ok (.ifCond .eq 14, 3) := by decide +kernel
theorem dX3_tellsMost_47 : decode cX3_tellsMost 47 = .ok (.iload 4, 2) := by decide +kernel
theorem dX3_tellsMost_49 : decode cX3_tellsMost 49 = .ok (.iload_n 2, 1) := by decide +kernel
theorem dX3_tellsMost_50 : decode cX3_tellsMost 50 = .ok (.if_icmp .ge 8, 3) := by decide +kernel
theorem dX3_tellsMost_53 : decode cX3_tellsMost 53 = .ok (.iload 4, 2) := by decide +kernel
theorem dX3_tellsMost_55 : decode cX3_tellsMost 55 = .ok (.istore_n 2, 1) := by decide +kernel
theorem dX3_tellsMost_56 : decode cX3_tellsMost 56 = .ok (.iload_n 3, 1) := by decide +kernel
theorem dX3_tellsMost_57 : decode cX3_tellsMost 57 = .ok (.istore_n 1, 1) := by decide +kernel
theorem dX3_tellsMost_58 : decode cX3_tellsMost 58 = .ok (.iinc 3 1, 3) := by decide +kernel
theorem dX3_tellsMost_61 : decode cX3_tellsMost 61 = .ok (.goto (-53), 3) := by decide +kernel
theorem dX3_tellsMost_64 : decode cX3_tellsMost 64 = .ok (.iload_n 1, 1) := by decide +kernel
theorem dX3_tellsMost_65 : decode cX3_tellsMost 65 = .ok (.ireturn, 1) := by decide +kernel
theorem dX3_row_0 : decode cX3_row 0 = .ok (.iload_n 1, 1) := by decide +kernel
theorem dX3_row_1 : decode cX3_row 1 = .ok (.iconst 0, 1) := by decide +kernel
theorem dX3_row_2 : decode cX3_row 2 = .ok (.bipush 99, 2) := by decide +kernel
theorem dX3_row_4 : decode cX3_row 4 = .ok (.invokestatic 44, 3) := by decide +kernel
theorem dX3_row_7 : decode cX3_row 7 = .ok (.istore_n 2, 1) := by decide +kernel
theorem dX3_row_8 : decode cX3_row 8 = .ok (.iload_n 2, 1) := by decide +kernel
theorem dX3_row_9 : decode cX3_row 9 = .ok (.ifCond .ne 15, 3) := by decide +kernel
theorem dX3_row_12 : decode cX3_row 12 = .ok (.aload_n 0, 1) := by decide +kernel
theorem dX3_row_13 : decode cX3_row 13 = .ok (.getfield 37, 3) := by decide +kernel
theorem dX3_row_16 : decode cX3_row 16 = .ok (.bipush 12, 2) := by decide +kernel
theorem dX3_row_18 : decode cX3_row 18 = .ok (.if_icmp .lt 6, 3) := by decide +kernel
theorem dX3_row_21 : decode cX3_row 21 = .ok (.bipush (-6), 2) := by decide +kernel
theorem dX3_row_23 : decode cX3_row 23 = .ok (.istore_n 2, 1) := by decide +kernel
theorem dX3_row_24 : decode cX3_row 24 = .ok (.iload_n 2, 1) := by decide +kernel
theorem dX3_row_25 : decode cX3_row 25 = .ok (.ifCond .eq 9, 3) := by decide +kernel
theorem dX3_row_28 : decode cX3_row 28 = .ok (.aload_n 0, 1) := by decide +kernel
theorem dX3_row_29 : decode cX3_row 29 = .ok (.iload_n 2, 1) := by decide +kernel
theorem dX3_row_30 : decode cX3_row 30 = .ok (.invokevirtual 51, 3) := by decide +kernel
theorem dX3_row_33 : decode cX3_row 33 = .ok (.ireturn, 1) := by decide +kernel
theorem dX3_row_34 : decode cX3_row 34 = .ok (.aload_n 0, 1) := by decide +kernel
theorem dX3_row_35 : decode cX3_row 35 = .ok (.getfield 33, 3) := by decide +kernel
theorem dX3_row_38 : decode cX3_row 38 = .ok (.aload_n 0, 1) := by decide +kernel
theorem dX3_row_39 : decode cX3_row 39 = .ok (.getfield 37, 3) := by decide +kernel
theorem dX3_row_42 : decode cX3_row 42 = .ok (.iload_n 1, 1) := by decide +kernel
theorem dX3_row_43 : decode cX3_row 43 = .ok (.invokestatic 111, 3) := by decide +kernel
theorem dX3_row_46 : decode cX3_row 46 = .ok (.aload_n 0, 1) := by decide +kernel
theorem dX3_row_47 : decode cX3_row 47 = .ok (.dup, 1) := by decide +kernel
theorem dX3_row_48 : decode cX3_row 48 = .ok (.getfield 37, 3) := by decide +kernel
theorem dX3_row_51 : decode cX3_row 51 = .ok (.iconst 1, 1) := by decide +kernel
theorem dX3_row_52 : decode cX3_row 52 = .ok (.iadd, 1) := by decide +kernel
theorem dX3_row_53 : decode cX3_row 53 = .ok (.putfield 37, 3) := by decide +kernel
theorem dX3_row_56 : decode cX3_row 56 = .ok (.aload_n 0, 1) := by decide +kernel
theorem dX3_row_57 : decode cX3_row 57 = .ok (.getfield 37, 3) := by decide +kernel
theorem dX3_row_60 : decode cX3_row 60 = .ok (.ireturn, 1) := by decide +kernel
theorem dX3_fits_0 : decode cX3_fits 0 = .ok (.iconst 0, 1) := by decide +kernel
theorem dX3_fits_1 : decode cX3_fits 1 = .ok (.istore_n 1, 1) := by decide +kernel
theorem dX3_fits_2 : decode cX3_fits 2 = .ok (.iconst 0, 1) := by decide +kernel
theorem dX3_fits_3 : decode cX3_fits 3 = .ok (.istore_n 2, 1) := by decide +kernel
theorem dX3_fits_4 : decode cX3_fits 4 = .ok (.iload_n 2, 1) := by decide +kernel
theorem dX3_fits_5 : decode cX3_fits 5 = .ok (.bipush 10, 2) := by decide +kernel
theorem dX3_fits_7 : decode cX3_fits 7 = .ok (.if_icmp .ge 25, 3) := by decide +kernel
theorem dX3_fits_10 : decode cX3_fits 10 = .ok (.aload_n 0, 1) := by decide +kernel
theorem dX3_fits_11 : decode cX3_fits 11 = .ok (.iload_n 2, 1) := by decide +kernel
theorem dX3_fits_12 : decode cX3_fits 12 = .ok (.invokevirtual 221, 3) := by decide +kernel
theorem dX3_fits_15 : decode cX3_fits 15 = .ok (.bipush (-9), 2) := by decide +kernel
theorem dX3_fits_17 : decode cX3_fits 17 = .ok (.if_icmp .ne 9, 3) := by decide +kernel
theorem dX3_fits_20 : decode cX3_fits 20 = .ok (.iload_n 1, 1) := by decide +kernel
theorem dX3_fits_21 : decode cX3_fits 21 = .ok (.iconst 1, 1) := by decide +kernel
theorem dX3_fits_22 : decode cX3_fits 22 = .ok (.iload_n 2, 1) := by decide +kernel
theorem dX3_fits_23 : decode cX3_fits 23 = .ok (.ishl, 1) := by decide +kernel
theorem dX3_fits_24 : decode cX3_fits 24 = .ok (.ior, 1) := by decide +kernel
theorem dX3_fits_25 : decode cX3_fits 25 = .ok (.istore_n 1, 1) := by decide +kernel
theorem dX3_fits_26 : decode cX3_fits 26 = .ok (.iinc 2 1, 3) := by decide +kernel
theorem dX3_fits_29 : decode cX3_fits 29 = .ok (.goto (-25), 3) := by decide +kernel
theorem dX3_fits_32 : decode cX3_fits 32 = .ok (.iload_n 1, 1) := by decide +kernel
theorem dX3_fits_33 : decode cX3_fits 33 = .ok (.ireturn, 1) := by decide +kernel
theorem dX3_judge_0 : decode cX3_judge 0 = .ok (.aload_n 0, 1) := by decide +kernel
theorem dX3_judge_1 : decode cX3_judge 1 = .ok (.aload_n 0, 1) := by decide +kernel
theorem dX3_judge_2 : decode cX3_judge 2 = .ok (.getfield 12, 3) := by decide +kernel
theorem dX3_judge_5 : decode cX3_judge 5 = .ok (.getfield 118, 3) := by decide +kernel
theorem dX3_judge_8 : decode cX3_judge 8 = .ok (.invokevirtual 221, 3) := by decide +kernel
theorem dX3_judge_11 : decode cX3_judge 11 = .ok (.istore_n 1, 1) := by decide +kernel
theorem dX3_judge_12 : decode cX3_judge 12 = .ok (.aload_n 0, 1) := by decide +kernel
theorem dX3_judge_13 : decode cX3_judge 13 = .ok (.iconst 0, 1) := by decide +kernel
theorem dX3_judge_14 : decode cX3_judge 14 = .ok (.putfield 37, 3) := by decide +kernel
theorem dX3_judge_17 : decode cX3_judge 17 = .ok (.iload_n 1, 1) := by decide +kernel
theorem dX3_judge_18 : decode cX3_judge 18 = .ok (.ireturn, 1) := by decide +kernel
theorem dX3_clear_0 : decode cX3_clear 0 = .ok (.aload_n 0, 1) := by decide +kernel
theorem dX3_clear_1 : decode cX3_clear 1 = .ok (.getfield 37, 3) := by decide +kernel
theorem dX3_clear_4 : decode cX3_clear 4 = .ok (.istore_n 1, 1) := by decide +kernel
theorem dX3_clear_5 : decode cX3_clear 5 = .ok (.aload_n 0, 1) := by decide +kernel
theorem dX3_clear_6 : decode cX3_clear 6 = .ok (.iconst 0, 1) := by decide +kernel
theorem dX3_clear_7 : decode cX3_clear 7 = .ok (.putfield 37, 3) := by decide +kernel
theorem dX3_clear_10 : decode cX3_clear 10 = .ok (.iload_n 1, 1) := by decide +kernel
theorem dX3_clear_11 : decode cX3_clear 11 = .ok (.ireturn, 1) := by decide +kernel
theorem dX3_lots_0 : decode cX3_lots 0 = .ok (.iload_n 1, 1) := by decide +kernel
theorem dX3_lots_1 : decode cX3_lots 1 = .ok (.iconst 1, 1) := by decide +kernel
theorem dX3_lots_2 : decode cX3_lots 2 = .ok (.bipush 20, 2) := by decide +kernel
theorem dX3_lots_4 : decode cX3_lots 4 = .ok (.invokestatic 44, 3) := by decide +kernel
theorem dX3_lots_7 : decode cX3_lots 7 = .ok (.iload_n 3, 1) := by decide +kernel
theorem dX3_lots_8 : decode cX3_lots 8 = .ok (.iconst 1, 1) := by decide +kernel
theorem dX3_lots_9 : decode cX3_lots 9 = .ok (.invokestatic 80, 3) := by decide +kernel
theorem dX3_lots_12 : decode cX3_lots 12 = .ok (.invokestatic 83, 3) := by decide +kernel
theorem dX3_lots_15 : decode cX3_lots 15 = .ok (.istore 4, 2) := by decide +kernel
theorem dX3_lots_17 : decode cX3_lots 17 = .ok (.iload 4, 2) := by decide +kernel
theorem dX3_lots_19 : decode cX3_lots 19 = .ok (.ifCond .eq 10, 3) := by decide +kernel
theorem dX3_lots_22 : decode cX3_lots 22 = .ok (.aload_n 0, 1) := by decide +kernel
theorem dX3_lots_23 : decode cX3_lots 23 = .ok (.iload 4, 2) := by decide +kernel
theorem dX3_lots_25 : decode cX3_lots 25 = .ok (.invokevirtual 51, 3) := by decide +kernel
theorem dX3_lots_28 : decode cX3_lots 28 = .ok (.ireturn, 1) := by decide +kernel
theorem dX3_lots_29 : decode cX3_lots 29 = .ok (.iload_n 2, 1) := by decide +kernel
theorem dX3_lots_30 : decode cX3_lots 30 = .ok (.istore 5, 2) := by decide +kernel
theorem dX3_lots_32 : decode cX3_lots 32 = .ok (.iconst 0, 1) := by decide +kernel
theorem dX3_lots_33 : decode cX3_lots 33 = .ok (.istore 6, 2) := by decide +kernel
theorem dX3_lots_35 : decode cX3_lots 35 = .ok (.iconst 0, 1) := by decide +kernel
theorem dX3_lots_36 : decode cX3_lots 36 = .ok (.istore 7, 2) := by decide +kernel
theorem dX3_lots_38 : decode cX3_lots 38 = .ok (.iconst 0, 1) := by decide +kernel
theorem dX3_lots_39 : decode cX3_lots 39 = .ok (.istore 8, 2) := by decide +kernel
theorem dX3_lots_41 : decode cX3_lots 41 = .ok (.iload 8, 2) := by decide +kernel
theorem dX3_lots_43 : decode cX3_lots 43 = .ok (.iload_n 1, 1) := by decide +kernel
theorem dX3_lots_44 : decode cX3_lots 44 = .ok (.if_icmp .ge 105, 3) := by decide +kernel
theorem dX3_lots_47 : decode cX3_lots 47 = .ok (.aload_n 0, 1) := by decide +kernel
theorem dX3_lots_48 : decode cX3_lots 48 = .ok (.invokevirtual 178, 3) := by decide +kernel
theorem dX3_lots_51 : decode cX3_lots 51 = .ok (.iconst 0, 1) := by decide +kernel
theorem dX3_lots_52 : decode cX3_lots 52 = .ok (.istore 9, 2) := by decide +kernel
theorem dX3_lots_54 : decode cX3_lots 54 = .ok (.iload 9, 2) := by decide +kernel
theorem dX3_lots_56 : decode cX3_lots 56 = .ok (.aload_n 0, 1) := by decide +kernel
theorem dX3_lots_57 : decode cX3_lots 57 = .ok (.getfield 16, 3) := by decide +kernel
theorem dX3_lots_60 : decode cX3_lots 60 = .ok (.getfield 63, 3) := by decide +kernel
theorem dX3_lots_63 : decode cX3_lots 63 = .ok (.if_icmp .ge 43, 3) := by decide +kernel
theorem dX3_lots_66 : decode cX3_lots 66 = .ok (.iload 5, 2) := by decide +kernel
theorem dX3_lots_68 : decode cX3_lots 68 = .ok (.ldc 224, 2) := by decide +kernel
theorem dX3_lots_70 : decode cX3_lots 70 = .ok (.imul, 1) := by decide +kernel
theorem dX3_lots_71 : decode cX3_lots 71 = .ok (.ldc 225, 2) := by decide +kernel
theorem dX3_lots_73 : decode cX3_lots 73 = .ok (.iadd, 1) := by decide +kernel
theorem dX3_lots_74 : decode cX3_lots 74 = .ok (.istore 5, 2) := by decide +kernel
theorem dX3_lots_76 : decode cX3_lots 76 = .ok (.aload_n 0, 1) := by decide +kernel
theorem dX3_lots_77 : decode cX3_lots 77 = .ok (.getfield 16, 3) := by decide +kernel
theorem dX3_lots_80 : decode cX3_lots 80 = .ok (.getfield 96, 3) := by decide +kernel
theorem dX3_lots_83 : decode cX3_lots 83 = .ok (.iload 9, 2) := by decide +kernel
theorem dX3_lots_85 : decode cX3_lots 85 = .ok (.iload 5, 2) := by decide +kernel
theorem dX3_lots_87 : decode cX3_lots 87 = .ok (.ldc 226, 2) := by decide +kernel
theorem dX3_lots_89 : decode cX3_lots 89 = .ok (.iand, 1) := by decide +kernel
theorem dX3_lots_90 : decode cX3_lots 90 = .ok (.sipush 256, 3) := by decide +kernel
theorem dX3_lots_93 : decode cX3_lots 93 = .ok (.idiv, 1) := by decide +kernel
theorem dX3_lots_94 : decode cX3_lots 94 = .ok (.bipush 10, 2) := by decide +kernel
theorem dX3_lots_96 : decode cX3_lots 96 = .ok (.irem, 1) := by decide +kernel
theorem dX3_lots_97 : decode cX3_lots 97 = .ok (.invokestatic 111, 3) := by decide +kernel
theorem dX3_lots_100 : decode cX3_lots 100 = .ok (.iinc 9 1, 3) := by decide +kernel
theorem dX3_lots_103 : decode cX3_lots 103 = .ok (.goto (-49), 3) := by decide +kernel
theorem dX3_lots_106 : decode cX3_lots 106 = .ok (.aload_n 0, 1) := by decide +kernel
theorem dX3_lots_107 : decode cX3_lots 107 = .ok (.getfield 16, 3) := by decide +kernel
theorem dX3_lots_110 : decode cX3_lots 110 = .ok (.iconst 5, 1) := by decide +kernel
theorem dX3_lots_111 : decode cX3_lots 111 = .ok (.bipush 127, 2) := by decide +kernel
theorem dX3_lots_113 : decode cX3_lots 113 = .ok (.invokevirtual 140, 3) := by decide +kernel
theorem dX3_lots_116 : decode cX3_lots 116 = .ok (.iload 6, 2) := by decide +kernel
theorem dX3_lots_118 : decode cX3_lots 118 = .ok (.aload_n 0, 1) := by decide +kernel
theorem dX3_lots_119 : decode cX3_lots 119 = .ok (.getfield 16, 3) := by decide +kernel
theorem dX3_lots_122 : decode cX3_lots 122 = .ok (.getfield 131, 3) := by decide +kernel
theorem dX3_lots_125 : decode cX3_lots 125 = .ok (.getfield 143, 3) := by decide +kernel
theorem dX3_lots_128 : decode cX3_lots 128 = .ok (.iadd, 1) := by decide +kernel
theorem dX3_lots_129 : decode cX3_lots 129 = .ok (.istore 6, 2) := by decide +kernel
theorem dX3_lots_131 : decode cX3_lots 131 = .ok (.iload 7, 2) := by decide +kernel
theorem dX3_lots_133 : decode cX3_lots 133 = .ok (.aload_n 0, 1) := by decide +kernel
theorem dX3_lots_134 : decode cX3_lots 134 = .ok (.getfield 16, 3) := by decide +kernel
theorem dX3_lots_137 : decode cX3_lots 137 = .ok (.getfield 121, 3) := by decide +kernel
theorem dX3_lots_140 : decode cX3_lots 140 = .ok (.iadd, 1) := by decide +kernel
theorem dX3_lots_141 : decode cX3_lots 141 = .ok (.istore 7, 2) := by decide +kernel
theorem dX3_lots_143 : decode cX3_lots 143 = .ok (.iinc 8 1, 3) := by decide +kernel
theorem dX3_lots_146 : decode cX3_lots 146 = .ok (.goto (-105), 3) := by decide +kernel
theorem dX3_lots_149 : decode cX3_lots 149 = .ok (.iload_n 3, 1) := by decide +kernel
theorem dX3_lots_150 : decode cX3_lots 150 = .ok (.ifCond .ne 8, 3) := by decide +kernel
theorem dX3_lots_153 : decode cX3_lots 153 = .ok (.iload 6, 2) := by decide +kernel
theorem dX3_lots_155 : decode cX3_lots 155 = .ok (.goto 5, 3) := by decide +kernel
theorem dX3_lots_158 : decode cX3_lots 158 = .ok (.iload 7, 2) := by decide +kernel
theorem dX3_lots_160 : decode cX3_lots 160 = .ok (.ireturn, 1) := by decide +kernel
theorem dX3_image_0 : decode cX3_image 0 = .ok (.aload_n 0, 1) := by decide +kernel
theorem dX3_image_1 : decode cX3_image 1 = .ok (.getfield 19, 3) := by decide +kernel
theorem dX3_image_4 : decode cX3_image 4 = .ok (.aload_n 0, 1) := by decide +kernel
theorem dX3_image_5 : decode cX3_image 5 = .ok (.getfield 12, 3) := by decide +kernel
theorem dX3_image_8 : decode cX3_image 8 = .ok (.invokevirtual 227, 3) := by decide +kernel
theorem dX3_image_11 : decode cX3_image 11 = .ok (.aload_n 0, 1) := by decide +kernel
theorem dX3_image_12 : decode cX3_image 12 = .ok (.iconst 1, 1) := by decide +kernel
theorem dX3_image_13 : decode cX3_image 13 = .ok (.putfield 22, 3) := by decide +kernel
theorem dX3_image_16 : decode cX3_image 16 = .ok (.aload_n 0, 1) := by decide +kernel
theorem dX3_image_17 : decode cX3_image 17 = .ok (.getfield 12, 3) := by decide +kernel
theorem dX3_image_20 : decode cX3_image 20 = .ok (.getfield 66, 3) := by decide +kernel
theorem dX3_image_23 : decode cX3_image 23 = .ok (.ireturn, 1) := by decide +kernel
theorem dX3_on_0 : decode cX3_on 0 = .ok (.aload_n 0, 1) := by decide +kernel
theorem dX3_on_1 : decode cX3_on 1 = .ok (.getfield 22, 3) := by decide +kernel
theorem dX3_on_4 : decode cX3_on 4 = .ok (.ifCond .ne 10, 3) := by decide +kernel
theorem dX3_on_7 : decode cX3_on 7 = .ok (.aload_n 0, 1) := by decide +kernel
theorem dX3_on_8 : decode cX3_on 8 = .ok (.bipush (-3), 2) := by decide +kernel
theorem dX3_on_10 : decode cX3_on 10 = .ok (.invokevirtual 51, 3) := by decide +kernel
theorem dX3_on_13 : decode cX3_on 13 = .ok (.ireturn, 1) := by decide +kernel
theorem dX3_on_14 : decode cX3_on 14 = .ok (.aload_n 0, 1) := by decide +kernel
theorem dX3_on_15 : decode cX3_on 15 = .ok (.getfield 12, 3) := by decide +kernel
theorem dX3_on_18 : decode cX3_on 18 = .ok (.aload_n 0, 1) := by decide +kernel
theorem dX3_on_19 : decode cX3_on 19 = .ok (.getfield 19, 3) := by decide +kernel
theorem dX3_on_22 : decode cX3_on 22 = .ok (.invokevirtual 227, 3) := by decide +kernel
theorem dX3_on_25 : decode cX3_on 25 = .ok (.aload_n 0, 1) := by decide +kernel
theorem dX3_on_26 : decode cX3_on 26 = .ok (.getfield 12, 3) := by decide +kernel
theorem dX3_on_29 : decode cX3_on 29 = .ok (.getfield 66, 3) := by decide +kernel
theorem dX3_on_32 : decode cX3_on 32 = .ok (.ireturn, 1) := by decide +kernel
theorem dX3_refuse_0 : decode cX3_refuse 0 = .ok (.iload_n 1, 1) := by decide +kernel
theorem dX3_refuse_1 : decode cX3_refuse 1 = .ok (.ineg, 1) := by decide +kernel
theorem dX3_refuse_2 : decode cX3_refuse 2 = .ok (.iconst 1, 1) := by decide +kernel
theorem dX3_refuse_3 : decode cX3_refuse 3 = .ok (.isub, 1) := by decide +kernel
theorem dX3_refuse_4 : decode cX3_refuse 4 = .ok (.istore_n 2, 1) := by decide +kernel
theorem dX3_refuse_5 : decode cX3_refuse 5 = .ok (.aload_n 0, 1) := by decide +kernel
theorem dX3_refuse_6 : decode cX3_refuse 6 = .ok (.getfield 41, 3) := by decide +kernel
theorem dX3_refuse_9 : decode cX3_refuse 9 = .ok (.iload_n 2, 1) := by decide +kernel
theorem dX3_refuse_10 : decode cX3_refuse 10 = .ok (.aload_n 0, 1) := by decide +kernel
theorem dX3_refuse_11 : decode cX3_refuse 11 = .ok (.getfield 41, 3) := by decide +kernel
theorem dX3_refuse_14 : decode cX3_refuse 14 = .ok (.iload_n 2, 1) := by decide +kernel
theorem dX3_refuse_15 : decode cX3_refuse 15 = .ok (.invokestatic 89, 3) := by decide +kernel
theorem dX3_refuse_18 : decode cX3_refuse 18 = .ok (.iconst 1, 1) := by decide +kernel
theorem dX3_refuse_19 : decode cX3_refuse 19 = .ok (.iadd, 1) := by decide +kernel
theorem dX3_refuse_20 : decode cX3_refuse 20 = .ok (.invokestatic 111, 3) := by decide +kernel
theorem dX3_refuse_23 : decode cX3_refuse 23 = .ok (.iload_n 1, 1) := by decide +kernel
theorem dX3_refuse_24 : decode cX3_refuse 24 = .ok (.ireturn, 1) := by decide +kernel
theorem dX3_first_0 : decode cX3_first 0 = .ok (.iload_n 0, 1) := by decide +kernel
theorem dX3_first_1 : decode cX3_first 1 = .ok (.ifCond .eq 7, 3) := by decide +kernel
theorem dX3_first_4 : decode cX3_first 4 = .ok (.iload_n 0, 1) := by decide +kernel
theorem dX3_first_5 : decode cX3_first 5 = .ok (.goto 4, 3) := by decide +kernel
theorem dX3_first_8 : decode cX3_first 8 = .ok (.iload_n 1, 1) := by decide +kernel
theorem dX3_first_9 : decode cX3_first 9 = .ok (.ireturn, 1) := by decide +kernel
theorem dX3_rangeNo_0 : decode cX3_rangeNo 0 = .ok (.iload_n 0, 1) := by decide +kernel
theorem dX3_rangeNo_1 : decode cX3_rangeNo 1 = .ok (.iload_n 1, 1) := by decide +kernel
theorem dX3_rangeNo_2 : decode cX3_rangeNo 2 = .ok (.if_icmp .ge 6, 3) := by decide +kernel
theorem dX3_rangeNo_5 : decode cX3_rangeNo 5 = .ok (.bipush (-4), 2) := by decide +kernel
theorem dX3_rangeNo_7 : decode cX3_rangeNo 7 = .ok (.ireturn, 1) := by decide +kernel
theorem dX3_rangeNo_8 : decode cX3_rangeNo 8 = .ok (.iload_n 0, 1) := by decide +kernel
theorem dX3_rangeNo_9 : decode cX3_rangeNo 9 = .ok (.iload_n 2, 1) := by decide +kernel
theorem dX3_rangeNo_10 : decode cX3_rangeNo 10 = .ok (.if_icmp .le 8, 3) := by decide +kernel
theorem dX3_rangeNo_13 : decode cX3_rangeNo 13 = .ok (.bipush (-6), 2) := by decide +kernel
theorem dX3_rangeNo_15 : decode cX3_rangeNo 15 = .ok (.goto 4, 3) := by decide +kernel
theorem dX3_rangeNo_18 : decode cX3_rangeNo 18 = .ok (.iconst 0, 1) := by decide +kernel
theorem dX3_rangeNo_19 : decode cX3_rangeNo 19 = .ok (.ireturn, 1) := by decide +kernel
theorem dX3_aheadNo_0 : decode cX3_aheadNo 0 = .ok (.iload_n 0, 1) := by decide +kernel
theorem dX3_aheadNo_1 : decode cX3_aheadNo 1 = .ok (.iconst 0, 1) := by decide +kernel
theorem dX3_aheadNo_2 : decode cX3_aheadNo 2 = .ok (.bipush 60, 2) := by decide +kernel
theorem dX3_aheadNo_4 : decode cX3_aheadNo 4 = .ok (.invokestatic 44, 3) := by decide +kernel
theorem dX3_aheadNo_7 : decode cX3_aheadNo 7 = .ok (.ireturn, 1) := by decide +kernel
theorem dX3_whatNo_0 : decode cX3_whatNo 0 = .ok (.iload_n 0, 1) := by decide +kernel
theorem dX3_whatNo_1 : decode cX3_whatNo 1 = .ok (.ifCond .lt 8, 3) := by decide +kernel
theorem dX3_whatNo_4 : decode cX3_whatNo 4 = .ok (.iload_n 0, 1) := by decide +kernel
theorem dX3_whatNo_5 : decode cX3_whatNo 5 = .ok (.iload_n 1, 1) := by decide +kernel
theorem dX3_whatNo_6 : decode cX3_whatNo 6 = .ok (.if_icmp .le 8, 3) := by decide +kernel
theorem dX3_whatNo_9 : decode cX3_whatNo 9 = .ok (.bipush (-2), 2) := by decide +kernel
theorem dX3_whatNo_11 : decode cX3_whatNo 11 = .ok (.goto 4, 3) := by decide +kernel
theorem dX3_whatNo_14 : decode cX3_whatNo 14 = .ok (.iconst 0, 1) := by decide +kernel
theorem dX3_whatNo_15 : decode cX3_whatNo 15 = .ok (.ireturn, 1) := by decide +kernel
theorem dX3_settingNo_0 : decode cX3_settingNo 0 = .ok (.iload_n 0, 1) := by decide +kernel
theorem dX3_settingNo_1 : decode cX3_settingNo 1 = .ok (.ifCond .ne 11, 3) := by decide +kernel
theorem dX3_settingNo_4 : decode cX3_settingNo 4 = .ok (.iload_n 1, 1) := by decide +kernel
theorem dX3_settingNo_5 : decode cX3_settingNo 5 = .ok (.iconst 0, 1) := by decide +kernel
theorem dX3_settingNo_6 : decode cX3_settingNo 6 = .ok (.bipush 9, 2) := by decide +kernel
theorem dX3_settingNo_8 : decode cX3_settingNo 8 = .ok (.invokestatic 44, 3) := by decide +kernel
theorem dX3_settingNo_11 : decode cX3_settingNo 11 = .ok (.ireturn, 1) := by decide +kernel
theorem dX3_settingNo_12 : decode cX3_settingNo 12 = .ok (.iload_n 0, 1) := by decide +kernel
theorem dX3_settingNo_13 : decode cX3_settingNo 13 = .ok (.iconst 1, 1) := by decide +kernel
theorem dX3_settingNo_14 : decode cX3_settingNo 14 = .ok (.if_icmp .ne 13, 3) := by decide +kernel
theorem dX3_settingNo_17 : decode cX3_settingNo 17 = .ok (.iload_n 1, 1) := by decide +kernel
theorem dX3_settingNo_18 : decode cX3_settingNo 18 = .ok (.iconst 0, 1) := by decide +kernel
theorem dX3_settingNo_19 : decode cX3_settingNo 19 = .ok (.bipush 99, 2) := by decide +kernel
theorem dX3_settingNo_21 : decode cX3_settingNo 21 = .ok (.invokestatic 44, 3) := by decide +kernel
theorem dX3_settingNo_24 : decode cX3_settingNo 24 = .ok (.goto 10, 3) := by decide +kernel
theorem dX3_settingNo_27 : decode cX3_settingNo 27 = .ok (.iload_n 1, 1) := by decide +kernel
theorem dX3_settingNo_28 : decode cX3_settingNo 28 = .ok (.iconst 1, 1) := by decide +kernel
theorem dX3_settingNo_29 : decode cX3_settingNo 29 = .ok (.bipush 20, 2) := by decide +kernel
theorem dX3_settingNo_31 : decode cX3_settingNo 31 = .ok (.invokestatic 44, 3) := by decide +kernel
theorem dX3_settingNo_34 : decode cX3_settingNo 34 = .ok (.ireturn, 1) := by decide +kernel
theorem dX3_wordNo_0 : decode cX3_wordNo 0 = .ok (.iload_n 0, 1) := by decide +kernel
theorem dX3_wordNo_1 : decode cX3_wordNo 1 = .ok (.ifCond .lt 9, 3) := by decide +kernel
theorem dX3_wordNo_4 : decode cX3_wordNo 4 = .ok (.iload_n 0, 1) := by decide +kernel
theorem dX3_wordNo_5 : decode cX3_wordNo 5 = .ok (.bipush 8, 2) := by decide +kernel
theorem dX3_wordNo_7 : decode cX3_wordNo 7 = .ok (.if_icmp .lt 7, 3) := by decide +kernel
theorem dX3_wordNo_10 : decode cX3_wordNo 10 = .ok (.iconst (-1), 1) := by decide +kernel
theorem dX3_wordNo_11 : decode cX3_wordNo 11 = .ok (.goto 4, 3) := by decide +kernel
theorem dX3_wordNo_14 : decode cX3_wordNo 14 = .ok (.iconst 0, 1) := by decide +kernel
theorem dX3_wordNo_15 : decode cX3_wordNo 15 = .ok (.ireturn, 1) := by decide +kernel
theorem dX3_callerNo_0 : decode cX3_callerNo 0 = .ok (.aload_n 0, 1) := by decide +kernel
theorem dX3_callerNo_1 : decode cX3_callerNo 1 = .ok (.getfield 12, 3) := by decide +kernel
theorem dX3_callerNo_4 : decode cX3_callerNo 4 = .ok (.iload_n 1, 1) := by decide +kernel
theorem dX3_callerNo_5 : decode cX3_callerNo 5 = .ok (.invokevirtual 190, 3) := by decide +kernel
theorem dX3_callerNo_8 : decode cX3_callerNo 8 = .ok (.ifCond .eq 7, 3) := by decide +kernel
theorem dX3_callerNo_11 : decode cX3_callerNo 11 = .ok (.iconst 0, 1) := by decide +kernel
theorem dX3_callerNo_12 : decode cX3_callerNo 12 = .ok (.goto 4, 3) := by decide +kernel
theorem dX3_callerNo_15 : decode cX3_callerNo 15 = .ok (.iconst (-1), 1) := by decide +kernel
theorem dX3_callerNo_16 : decode cX3_callerNo 16 = .ok (.ireturn, 1) := by decide +kernel
theorem dX3_think_0 : decode cX3_think 0 = .ok (.aload_n 0, 1) := by decide +kernel
theorem dX3_think_1 : decode cX3_think 1 = .ok (.getfield 16, 3) := by decide +kernel
theorem dX3_think_4 : decode cX3_think 4 = .ok (.aload_n 0, 1) := by decide +kernel
theorem dX3_think_5 : decode cX3_think 5 = .ok (.getfield 12, 3) := by decide +kernel
theorem dX3_think_8 : decode cX3_think 8 = .ok (.invokevirtual 227, 3) := by decide +kernel
theorem dX3_think_11 : decode cX3_think 11 = .ok (.aload_n 0, 1) := by decide +kernel
theorem dX3_think_12 : decode cX3_think 12 = .ok (.getfield 16, 3) := by decide +kernel
theorem dX3_think_15 : decode cX3_think 15 = .ok (.getfield 131, 3) := by decide +kernel
theorem dX3_think_18 : decode cX3_think 18 = .ok (.invokevirtual 135, 3) := by decide +kernel
theorem dX3_think_21 : decode cX3_think 21 = .ok (.return_, 1) := by decide +kernel
theorem dX3_lookAhead_0 : decode cX3_lookAhead 0 = .ok (.aload_n 0, 1) := by decide +kernel
theorem dX3_lookAhead_1 : decode cX3_lookAhead 1 = .ok (.invokevirtual 178, 3) := by decide +kernel
theorem dX3_lookAhead_4 : decode cX3_lookAhead 4 = .ok (.aload_n 0, 1) := by decide +kernel
theorem dX3_lookAhead_5 : decode cX3_lookAhead 5 = .ok (.getfield 16, 3) := by decide +kernel
theorem dX3_lookAhead_8 : decode cX3_lookAhead 8 = .ok (.iload_n 1, 1) := by decide +kernel
theorem dX3_lookAhead_9 : decode cX3_lookAhead 9 = .ok (.iload_n 2, 1) := by decide +kernel
theorem dX3_lookAhead_10 : decode cX3_lookAhead 10 = .ok (.invokevirtual 140, 3) := by decide +kernel
theorem dX3_lookAhead_13 : decode cX3_lookAhead 13 = .ok (.return_, 1) := by decide +kernel
theorem dX3_without_0 : decode cX3_without 0 = .ok (.bipush 127, 2) := by decide +kernel
theorem dX3_without_2 : decode cX3_without 2 = .ok (.iload_n 0, 1) := by decide +kernel
theorem dX3_without_3 : decode cX3_without 3 = .ok (.iconst (-1), 1) := by decide +kernel
theorem dX3_without_4 : decode cX3_without 4 = .ok (.ixor, 1) := by decide +kernel
theorem dX3_without_5 : decode cX3_without 5 = .ok (.iand, 1) := by decide +kernel
theorem dX3_without_6 : decode cX3_without 6 = .ok (.ireturn, 1) := by decide +kernel
theorem dX3_staysLoud_0 : decode cX3_staysLoud 0 = .ok (.aload_n 0, 1) := by decide +kernel
theorem dX3_staysLoud_1 : decode cX3_staysLoud 1 = .ok (.invokevirtual 178, 3) := by decide +kernel
theorem dX3_staysLoud_4 : decode cX3_staysLoud 4 = .ok (.iconst 0, 1) := by decide +kernel
theorem dX3_staysLoud_5 : decode cX3_staysLoud 5 = .ok (.istore_n 3, 1) := by decide +kernel
theorem dX3_staysLoud_6 : decode cX3_staysLoud 6 = .ok (.iload_n 3, 1) := by decide +kernel
theorem dX3_staysLoud_7 : decode cX3_staysLoud 7 = .ok (.iload_n 1, 1) := by decide +kernel
theorem dX3_staysLoud_8 : decode cX3_staysLoud 8 = .ok (.if_icmp .ge 29, 3) := by decide +kernel
theorem dX3_staysLoud_11 : decode cX3_staysLoud 11 = .ok (.aload_n 0, 1) := by decide +kernel
theorem dX3_staysLoud_12 : decode cX3_staysLoud 12 = .ok (.getfield 16, 3) := by decide +kernel
theorem dX3_staysLoud_15 : decode cX3_staysLoud 15 = .ok (.iload_n 2, 1) := by decide +kernel
theorem dX3_staysLoud_16 : decode cX3_staysLoud 16 = .ok (.invokevirtual 181, 3) := by decide +kernel
theorem dX3_staysLoud_19 : decode cX3_staysLoud 19 = .ok (.aload_n 0, 1) := by decide +kernel
theorem dX3_staysLoud_20 : decode cX3_staysLoud 20 = .ok (.getfield 16, 3) := by decide +kernel
theorem dX3_staysLoud_23 : decode cX3_staysLoud 23 = .ok (.invokevirtual 149, 3) := by decide +kernel
theorem dX3_staysLoud_26 : decode cX3_staysLoud 26 = .ok (.ifCond .eq 5, 3) := by decide +kernel
theorem dX3_staysLoud_29 : decode cX3_staysLoud 29 = .ok (.iconst 0, 1) := by decide +kernel
theorem dX3_staysLoud_30 : decode cX3_staysLoud 30 = .ok (.ireturn, 1) := by decide +kernel
theorem dX3_staysLoud_31 : decode cX3_staysLoud 31 = .ok (.iinc 3 1, 3) := by decide +kernel
theorem dX3_staysLoud_34 : decode cX3_staysLoud 34 = .ok (.goto (-28), 3) := by decide +kernel
theorem dX3_staysLoud_37 : decode cX3_staysLoud 37 = .ok (.iconst 1, 1) := by decide +kernel
theorem dX3_staysLoud_38 : decode cX3_staysLoud 38 = .ok (.ireturn, 1) := by decide +kernel
theorem dX3_inRow_0 : decode cX3_inRow 0 = .ok (.iconst 1, 1) := by decide +kernel
theorem dX3_inRow_1 : decode cX3_inRow 1 = .ok (.aload_n 0, 1) := by decide +kernel
theorem dX3_inRow_2 : decode cX3_inRow 2 = .ok (.getfield 12, 3) := by decide +kernel
theorem dX3_inRow_5 : decode cX3_inRow 5 = .ok (.getfield 63, 3) := by decide +kernel
theorem dX3_inRow_8 : decode cX3_inRow 8 = .ok (.invokestatic 231, 3) := by decide +kernel
theorem dX3_inRow_11 : decode cX3_inRow 11 = .ok (.istore_n 3, 1) := by decide +kernel
theorem dX3_inRow_12 : decode cX3_inRow 12 = .ok (.iload_n 2, 1) := by decide +kernel
theorem dX3_inRow_13 : decode cX3_inRow 13 = .ok (.ifCond .ne 9, 3) := by decide +kernel
theorem dX3_inRow_16 : decode cX3_inRow 16 = .ok (.iload_n 1, 1) := by decide +kernel
theorem dX3_inRow_17 : decode cX3_inRow 17 = .ok (.iload_n 3, 1) := by decide +kernel
theorem dX3_inRow_18 : decode cX3_inRow 18 = .ok (.idiv, 1) := by decide +kernel
theorem dX3_inRow_19 : decode cX3_inRow 19 = .ok (.iload_n 3, 1) := by decide +kernel
theorem dX3_inRow_20 : decode cX3_inRow 20 = .ok (.idiv, 1) := by decide +kernel
theorem dX3_inRow_21 : decode cX3_inRow 21 = .ok (.ireturn, 1) := by decide +kernel
theorem dX3_inRow_22 : decode cX3_inRow 22 = .ok (.iload_n 2, 1) := by decide +kernel
theorem dX3_inRow_23 : decode cX3_inRow 23 = .ok (.iconst 1, 1) := by decide +kernel
theorem dX3_inRow_24 : decode cX3_inRow 24 = .ok (.if_icmp .ne 11, 3) := by decide +kernel
theorem dX3_inRow_27 : decode cX3_inRow 27 = .ok (.iload_n 1, 1) := by decide +kernel
theorem dX3_inRow_28 : decode cX3_inRow 28 = .ok (.iload_n 3, 1) := by decide +kernel
theorem dX3_inRow_29 : decode cX3_inRow 29 = .ok (.idiv, 1) := by decide +kernel
theorem dX3_inRow_30 : decode cX3_inRow 30 = .ok (.iload_n 3, 1) := by decide +kernel
theorem dX3_inRow_31 : decode cX3_inRow 31 = .ok (.irem, 1) := by decide +kernel
theorem dX3_inRow_32 : decode cX3_inRow 32 = .ok (.goto 6, 3) := by decide +kernel
theorem dX3_inRow_35 : decode cX3_inRow 35 = .ok (.iload_n 1, 1) := by decide +kernel
theorem dX3_inRow_36 : decode cX3_inRow 36 = .ok (.iload_n 3, 1) := by decide +kernel
theorem dX3_inRow_37 : decode cX3_inRow 37 = .ok (.irem, 1) := by decide +kernel
theorem dX3_inRow_38 : decode cX3_inRow 38 = .ok (.ireturn, 1) := by decide +kernel
theorem dX3_thinkWeekOf_0 : decode cX3_thinkWeekOf 0 = .ok (.aload_n 0, 1) := by decide +kernel
theorem dX3_thinkWeekOf_1 : decode cX3_thinkWeekOf 1 = .ok (.invokevirtual 178, 3) := by decide +kernel
theorem dX3_thinkWeekOf_4 : decode cX3_thinkWeekOf 4 = .ok (.aload_n 0, 1) := by decide +kernel
theorem dX3_thinkWeekOf_5 : decode cX3_thinkWeekOf 5 = .ok (.getfield 16, 3) := by decide +kernel
theorem dX3_thinkWeekOf_8 : decode cX3_thinkWeekOf 8 = .ok (.bipush 7, 2) := by decide +kernel
theorem dX3_thinkWeekOf_10 : decode cX3_thinkWeekOf 10 = .ok (.invokevirtual 187, 3) := by decide +kernel
theorem dX3_thinkWeekOf_13 : decode cX3_thinkWeekOf 13 = .ok (.iconst 0, 1) := by decide +kernel
theorem dX3_thinkWeekOf_14 : decode cX3_thinkWeekOf 14 = .ok (.istore_n 2, 1) := by decide +kernel
theorem dX3_thinkWeekOf_15 : decode cX3_thinkWeekOf 15 = .ok (.iload_n 2, 1) := by decide +kernel
theorem dX3_thinkWeekOf_16 : decode cX3_thinkWeekOf 16 = .ok (.iconst 3, 1) := by decide +kernel
theorem dX3_thinkWeekOf_17 : decode cX3_thinkWeekOf 17 = .ok (.if_icmp .ge 24, 3) := by decide +kernel
theorem dX3_thinkWeekOf_20 : decode cX3_thinkWeekOf 20 = .ok (.aload_n 0, 1) := by decide +kernel
theorem dX3_thinkWeekOf_21 : decode cX3_thinkWeekOf 21 = .ok (.getfield 16, 3) := by decide +kernel
theorem dX3_thinkWeekOf_24 : decode cX3_thinkWeekOf 24 = .ok (.iconst 1, 1) := by decide +kernel
theorem dX3_thinkWeekOf_25 : decode cX3_thinkWeekOf 25 = .ok (.aload_n 0, 1) := by decide +kernel
theorem dX3_thinkWeekOf_26 : decode cX3_thinkWeekOf 26 = .ok (.iload_n 1, 1) := by decide +kernel
theorem dX3_thinkWeekOf_27 : decode cX3_thinkWeekOf 27 = .ok (.iload_n 2, 1) := by decide +kernel
theorem dX3_thinkWeekOf_28 : decode cX3_thinkWeekOf 28 = .ok (.invokevirtual 196, 3) := by decide +kernel
theorem dX3_thinkWeekOf_31 : decode cX3_thinkWeekOf 31 = .ok (.ishl, 1) := by decide +kernel
theorem dX3_thinkWeekOf_32 : decode cX3_thinkWeekOf 32 = .ok (.invokevirtual 181, 3) := by decide +kernel
theorem dX3_thinkWeekOf_35 : decode cX3_thinkWeekOf 35 = .ok (.iinc 2 1, 3) := by decide +kernel
theorem dX3_thinkWeekOf_38 : decode cX3_thinkWeekOf 38 = .ok (.goto (-23), 3) := by decide +kernel
theorem dX3_thinkWeekOf_41 : decode cX3_thinkWeekOf 41 = .ok (.return_, 1) := by decide +kernel
theorem dX3_thinkTurns_0 : decode cX3_thinkTurns 0 = .ok (.aload_n 0, 1) := by decide +kernel
theorem dX3_thinkTurns_1 : decode cX3_thinkTurns 1 = .ok (.invokevirtual 178, 3) := by decide +kernel
theorem dX3_thinkTurns_4 : decode cX3_thinkTurns 4 = .ok (.aload_n 0, 1) := by decide +kernel
theorem dX3_thinkTurns_5 : decode cX3_thinkTurns 5 = .ok (.getfield 16, 3) := by decide +kernel
theorem dX3_thinkTurns_8 : decode cX3_thinkTurns 8 = .ok (.iload_n 1, 1) := by decide +kernel
theorem dX3_thinkTurns_9 : decode cX3_thinkTurns 9 = .ok (.iload_n 2, 1) := by decide +kernel
theorem dX3_thinkTurns_10 : decode cX3_thinkTurns 10 = .ok (.ifCond .ne 8, 3) := by decide +kernel
theorem dX3_thinkTurns_13 : decode cX3_thinkTurns 13 = .ok (.bipush 7, 2) := by decide +kernel
theorem dX3_thinkTurns_15 : decode cX3_thinkTurns 15 = .ok (.goto 5, 3) := by decide +kernel
theorem dX3_thinkTurns_18 : decode cX3_thinkTurns 18 = .ok (.bipush 19, 2) := by decide +kernel
theorem dX3_thinkTurns_20 : decode cX3_thinkTurns 20 = .ok (.invokevirtual 127, 3) := by decide +kernel
theorem dX3_thinkTurns_23 : decode cX3_thinkTurns 23 = .ok (.aload_n 0, 1) := by decide +kernel
theorem dX3_thinkTurns_24 : decode cX3_thinkTurns 24 = .ok (.getfield 16, 3) := by decide +kernel
theorem dX3_thinkTurns_27 : decode cX3_thinkTurns 27 = .ok (.iload_n 3, 1) := by decide +kernel
theorem dX3_thinkTurns_28 : decode cX3_thinkTurns 28 = .ok (.iload 4, 2) := by decide +kernel
theorem dX3_thinkTurns_30 : decode cX3_thinkTurns 30 = .ok (.ifCond .ne 8, 3) := by decide +kernel
theorem dX3_thinkTurns_33 : decode cX3_thinkTurns 33 = .ok (.bipush 7, 2) := by decide +kernel
theorem dX3_thinkTurns_35 : decode cX3_thinkTurns 35 = .ok (.goto 5, 3) := by decide +kernel
theorem dX3_thinkTurns_38 : decode cX3_thinkTurns 38 = .ok (.bipush 19, 2) := by decide +kernel
theorem dX3_thinkTurns_40 : decode cX3_thinkTurns 40 = .ok (.invokevirtual 127, 3) := by decide +kernel
theorem dX3_thinkTurns_43 : decode cX3_thinkTurns 43 = .ok (.aload_n 0, 1) := by decide +kernel
theorem dX3_thinkTurns_44 : decode cX3_thinkTurns 44 = .ok (.getfield 16, 3) := by decide +kernel
theorem dX3_thinkTurns_47 : decode cX3_thinkTurns 47 = .ok (.iload 5, 2) := by decide +kernel
theorem dX3_thinkTurns_49 : decode cX3_thinkTurns 49 = .ok (.bipush 127, 2) := by decide +kernel
theorem dX3_thinkTurns_51 : decode cX3_thinkTurns 51 = .ok (.invokevirtual 140, 3) := by decide +kernel
theorem dX3_thinkTurns_54 : decode cX3_thinkTurns 54 = .ok (.return_, 1) := by decide +kernel
theorem dX3_hearersOf_0 : decode cX3_hearersOf 0 = .ok (.iconst 0, 1) := by decide +kernel
theorem dX3_hearersOf_1 : decode cX3_hearersOf 1 = .ok (.istore_n 2, 1) := by decide +kernel
theorem dX3_hearersOf_2 : decode cX3_hearersOf 2 = .ok (.iconst 0, 1) := by decide +kernel
theorem dX3_hearersOf_3 : decode cX3_hearersOf 3 = .ok (.istore_n 3, 1) := by decide +kernel
theorem dX3_hearersOf_4 : decode cX3_hearersOf 4 = .ok (.iload_n 3, 1) := by decide +kernel
theorem dX3_hearersOf_5 : decode cX3_hearersOf 5 = .ok (.aload_n 0, 1) := by decide +kernel
theorem dX3_hearersOf_6 : decode cX3_hearersOf 6 = .ok (.getfield 12, 3) := by decide +kernel
theorem dX3_hearersOf_9 : decode cX3_hearersOf 9 = .ok (.getfield 63, 3) := by decide +kernel
theorem dX3_hearersOf_12 : decode cX3_hearersOf 12 = .ok (.if_icmp .ge 27, 3) := by decide +kernel
theorem dX3_hearersOf_15 : decode cX3_hearersOf 15 = .ok (.aload_n 0, 1) := by decide +kernel
theorem dX3_hearersOf_16 : decode cX3_hearersOf 16 = .ok (.getfield 12, 3) := by decide +kernel
theorem dX3_hearersOf_19 : decode cX3_hearersOf 19 = .ok (.iload_n 3, 1) := by decide +kernel
theorem dX3_hearersOf_20 : decode cX3_hearersOf 20 = .ok (.invokevirtual 157, 3) := by decide +kernel
theorem dX3_hearersOf_23 : decode cX3_hearersOf 23 = .ok (.iload_n 1, 1) := by decide +kernel
theorem dX3_hearersOf_24 : decode cX3_hearersOf 24 = .ok (.if_icmp .ne 9, 3) := by decide +kernel
theorem dX3_hearersOf_27 : decode cX3_hearersOf 27 = .ok (.iload_n 2, 1) := by decide +kernel
theorem dX3_hearersOf_28 : decode cX3_hearersOf 28 = .ok (.iconst 1, 1) := by decide +kernel
theorem dX3_hearersOf_29 : decode cX3_hearersOf 29 = .ok (.iload_n 3, 1) := by decide +kernel
theorem dX3_hearersOf_30 : decode cX3_hearersOf 30 = .ok (.ishl, 1) := by decide +kernel
theorem dX3_hearersOf_31 : decode cX3_hearersOf 31 = .ok (.ior, 1) := by decide +kernel
theorem dX3_hearersOf_32 : decode cX3_hearersOf 32 = .ok (.istore_n 2, 1) := by decide +kernel
theorem dX3_hearersOf_33 : decode cX3_hearersOf 33 = .ok (.iinc 3 1, 3) := by decide +kernel
theorem dX3_hearersOf_36 : decode cX3_hearersOf 36 = .ok (.goto (-32), 3) := by decide +kernel
theorem dX3_hearersOf_39 : decode cX3_hearersOf 39 = .ok (.iload_n 2, 1) := by decide +kernel
theorem dX3_hearersOf_40 : decode cX3_hearersOf 40 = .ok (.ireturn, 1) := by decide +kernel
theorem dX3_firstUntrue_0 : decode cX3_firstUntrue 0 = .ok (.aload_n 0, 1) := by decide +kernel
theorem dX3_firstUntrue_1 : decode cX3_firstUntrue 1 = .ok (.invokevirtual 178, 3) := by decide +kernel
theorem dX3_firstUntrue_4 : decode cX3_firstUntrue 4 = .ok (.aload_n 0, 1) := by decide +kernel
theorem dX3_firstUntrue_5 : decode cX3_firstUntrue 5 = .ok (.getfield 16, 3) := by decide +kernel
theorem dX3_firstUntrue_8 : decode cX3_firstUntrue 8 = .ok (.iload_n 1, 1) := by decide +kernel
theorem dX3_firstUntrue_9 : decode cX3_firstUntrue 9 = .ok (.putfield 118, 3) := by decide +kernel
theorem dX3_firstUntrue_12 : decode cX3_firstUntrue 12 = .ok (.iconst 0, 1) := by decide +kernel
theorem dX3_firstUntrue_13 : decode cX3_firstUntrue 13 = .ok (.istore_n 2, 1) := by decide +kernel
theorem dX3_firstUntrue_14 : decode cX3_firstUntrue 14 = .ok (.iload_n 2, 1) := by decide +kernel
theorem dX3_firstUntrue_15 : decode cX3_firstUntrue 15 = .ok (.aload_n 0, 1) := by decide +kernel
theorem dX3_firstUntrue_16 : decode cX3_firstUntrue 16 = .ok (.getfield 37, 3) := by decide +kernel
theorem dX3_firstUntrue_19 : decode cX3_firstUntrue 19 = .ok (.if_icmp .ge 43, 3) := by decide +kernel
theorem dX3_firstUntrue_22 : decode cX3_firstUntrue 22 = .ok (.aload_n 0, 1) := by decide +kernel
theorem dX3_firstUntrue_23 : decode cX3_firstUntrue 23 = .ok (.getfield 33, 3) := by decide +kernel
theorem dX3_firstUntrue_26 : decode cX3_firstUntrue 26 = .ok (.iload_n 2, 1) := by decide +kernel
theorem dX3_firstUntrue_27 : decode cX3_firstUntrue 27 = .ok (.invokestatic 89, 3) := by decide +kernel
theorem dX3_firstUntrue_30 : decode cX3_firstUntrue 30 = .ok (.bipush 99, 2) := by decide +kernel
theorem dX3_firstUntrue_32 : decode cX3_firstUntrue 32 = .ok (.aload_n 0, 1) := by decide +kernel
theorem dX3_firstUntrue_33 : decode cX3_firstUntrue 33 = .ok (.getfield 16, 3) := by decide +kernel
theorem dX3_firstUntrue_36 : decode cX3_firstUntrue 36 = .ok (.invokevirtual 146, 3) := by decide +kernel
theorem dX3_firstUntrue_39 : decode cX3_firstUntrue 39 = .ok (.invokestatic 236, 3) := by decide +kernel
theorem dX3_firstUntrue_42 : decode cX3_firstUntrue 42 = .ok (.if_icmp .eq 5, 3) := by decide +kernel
theorem dX3_firstUntrue_45 : decode cX3_firstUntrue 45 = .ok (.iload_n 2, 1) := by decide +kernel
theorem dX3_firstUntrue_46 : decode cX3_firstUntrue 46 = .ok (.ireturn, 1) := by decide +kernel
theorem dX3_firstUntrue_47 : decode cX3_firstUntrue 47 = .ok (.aload_n 0, 1) := by decide +kernel
theorem dX3_firstUntrue_48 : decode cX3_firstUntrue 48 = .ok (.getfield 16, 3) := by decide +kernel
theorem dX3_firstUntrue_51 : decode cX3_firstUntrue 51 = .ok (.bipush 127, 2) := by decide +kernel
theorem dX3_firstUntrue_53 : decode cX3_firstUntrue 53 = .ok (.invokevirtual 181, 3) := by decide +kernel
theorem dX3_firstUntrue_56 : decode cX3_firstUntrue 56 = .ok (.iinc 2 1, 3) := by decide +kernel
theorem dX3_firstUntrue_59 : decode cX3_firstUntrue 59 = .ok (.goto (-45), 3) := by decide +kernel
theorem dX3_firstUntrue_62 : decode cX3_firstUntrue 62 = .ok (.bipush (-9), 2) := by decide +kernel
theorem dX3_firstUntrue_64 : decode cX3_firstUntrue 64 = .ok (.ireturn, 1) := by decide +kernel
theorem dX3_at_0 : decode cX3_at 0 = .ok (.iload_n 1, 1) := by decide +kernel
theorem dX3_at_1 : decode cX3_at 1 = .ok (.ifCond .lt 15, 3) := by decide +kernel
theorem dX3_at_4 : decode cX3_at 4 = .ok (.iload_n 1, 1) := by decide +kernel
theorem dX3_at_5 : decode cX3_at 5 = .ok (.aload_n 0, 1) := by decide +kernel
theorem dX3_at_6 : decode cX3_at 6 = .ok (.arraylength, 1) := by decide +kernel
theorem dX3_at_7 : decode cX3_at 7 = .ok (.if_icmp .ge 9, 3) := by decide +kernel
theorem dX3_at_10 : decode cX3_at 10 = .ok (.aload_n 0, 1) := by decide +kernel
theorem dX3_at_11 : decode cX3_at 11 = .ok (.iload_n 1, 1) := by decide +kernel
theorem dX3_at_12 : decode cX3_at 12 = .ok (.iaload, 1) := by decide +kernel
theorem dX3_at_13 : decode cX3_at 13 = .ok (.goto 4, 3) := by decide +kernel
theorem dX3_at_16 : decode cX3_at 16 = .ok (.iconst 0, 1) := by decide +kernel
theorem dX3_at_17 : decode cX3_at 17 = .ok (.ireturn, 1) := by decide +kernel
theorem dX3_put_0 : decode cX3_put 0 = .ok (.iload_n 1, 1) := by decide +kernel
theorem dX3_put_1 : decode cX3_put 1 = .ok (.ifCond .lt 13, 3) := by decide +kernel
theorem dX3_put_4 : decode cX3_put 4 = .ok (.iload_n 1, 1) := by decide +kernel
theorem dX3_put_5 : decode cX3_put 5 = .ok (.aload_n 0, 1) := by decide +kernel
theorem dX3_put_6 : decode cX3_put 6 = .ok (.arraylength, 1) := by decide +kernel
theorem dX3_put_7 : decode cX3_put 7 = .ok (.if_icmp .ge 7, 3) := by decide +kernel
theorem dX3_put_10 : decode cX3_put 10 = .ok (.aload_n 0, 1) := by decide +kernel
theorem dX3_put_11 : decode cX3_put 11 = .ok (.iload_n 1, 1) := by decide +kernel
theorem dX3_put_12 : decode cX3_put 12 = .ok (.iload_n 2, 1) := by decide +kernel
theorem dX3_put_13 : decode cX3_put 13 = .ok (.iastore, 1) := by decide +kernel
theorem dX3_put_14 : decode cX3_put 14 = .ok (.return_, 1) := by decide +kernel
theorem dX3_copy_0 : decode cX3_copy 0 = .ok (.aload_n 0, 1) := by decide +kernel
theorem dX3_copy_1 : decode cX3_copy 1 = .ok (.iconst 0, 1) := by decide +kernel
theorem dX3_copy_2 : decode cX3_copy 2 = .ok (.aload_n 1, 1) := by decide +kernel
theorem dX3_copy_3 : decode cX3_copy 3 = .ok (.iconst 0, 1) := by decide +kernel
theorem dX3_copy_4 : decode cX3_copy 4 = .ok (.aload_n 0, 1) := by decide +kernel
theorem dX3_copy_5 : decode cX3_copy 5 = .ok (.arraylength, 1) := by decide +kernel
theorem dX3_copy_6 : decode cX3_copy 6 = .ok (.aload_n 1, 1) := by decide +kernel
theorem dX3_copy_7 : decode cX3_copy 7 = .ok (.arraylength, 1) := by decide +kernel
theorem dX3_copy_8 : decode cX3_copy 8 = .ok (.invokestatic 236, 3) := by decide +kernel
theorem dX3_copy_11 : decode cX3_copy 11 = .ok (.invokestatic 239, 3) := by decide +kernel
theorem dX3_copy_14 : decode cX3_copy 14 = .ok (.return_, 1) := by decide +kernel
