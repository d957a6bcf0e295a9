theorem dX0_init_0 : decode cX0_init 0 = .ok (.aload_n 0, 1) := by decide +kernel
theorem dX0_init_1 : decode cX0_init 1 = .ok (.invokespecial 3, 3) := by decide +kernel
theorem dX0_init_4 : decode cX0_init 4 = .ok (.aload_n 0, 1) := by decide +kernel
theorem dX0_init_5 : decode cX0_init 5 = .ok (.iconst 0, 1) := by decide +kernel
theorem dX0_init_6 : decode cX0_init 6 = .ok (.putfield 9, 3) := by decide +kernel
theorem dX0_init_9 : decode cX0_init 9 = .ok (.aload_n 0, 1) := by decide +kernel
theorem dX0_init_10 : decode cX0_init 10 = .ok (.bipush 7, 2) := by decide +kernel
theorem dX0_init_12 : decode cX0_init 12 = .ok (.newarray .int, 2) := by decide +kernel
theorem dX0_init_14 : decode cX0_init 14 = .ok (.putfield 15, 3) := by decide +kernel
theorem dX0_init_17 : decode cX0_init 17 = .ok (.aload_n 0, 1) := by decide +kernel
theorem dX0_init_18 : decode cX0_init 18 = .ok (.bipush 7, 2) := by decide +kernel
theorem dX0_init_20 : decode cX0_init 20 = .ok (.newarray .int, 2) := by decide +kernel
theorem dX0_init_22 : decode cX0_init 22 = .ok (.putfield 19, 3) := by decide +kernel
theorem dX0_init_25 : decode cX0_init 25 = .ok (.aload_n 0, 1) := by decide +kernel
theorem dX0_init_26 : decode cX0_init 26 = .ok (.bipush 7, 2) := by decide +kernel
theorem dX0_init_28 : decode cX0_init 28 = .ok (.newarray .int, 2) := by decide +kernel
theorem dX0_init_30 : decode cX0_init 30 = .ok (.putfield 22, 3) := by decide +kernel
theorem dX0_init_33 : decode cX0_init 33 = .ok (.aload_n 0, 1) := by decide +kernel
theorem dX0_init_34 : decode cX0_init 34 = .ok (.bipush 7, 2) := by decide +kernel
theorem dX0_init_36 : decode cX0_init 36 = .ok (.newarray .int, 2) := by decide +kernel
theorem dX0_init_38 : decode cX0_init 38 = .ok (.putfield 25, 3) := by decide +kernel
theorem dX0_init_41 : decode cX0_init 41 = .ok (.aload_n 0, 1) := by decide +kernel
theorem dX0_init_42 : decode cX0_init 42 = .ok (.bipush 7, 2) := by decide +kernel
theorem dX0_init_44 : decode cX0_init 44 = .ok (.newarray .int, 2) := by decide +kernel
theorem dX0_init_46 : decode cX0_init 46 = .ok (.putfield 28, 3) := by decide +kernel
theorem dX0_init_49 : decode cX0_init 49 = .ok (.aload_n 0, 1) := by decide +kernel
theorem dX0_init_50 : decode cX0_init 50 = .ok (.bipush 7, 2) := by decide +kernel
theorem dX0_init_52 : decode cX0_init 52 = .ok (.newarray .int, 2) := by decide +kernel
theorem dX0_init_54 : decode cX0_init 54 = .ok (.putfield 31, 3) := by decide +kernel
theorem dX0_init_57 : decode cX0_init 57 = .ok (.aload_n 0, 1) := by decide +kernel
theorem dX0_init_58 : decode cX0_init 58 = .ok (.bipush 8, 2) := by decide +kernel
theorem dX0_init_60 : decode cX0_init 60 = .ok (.newarray .int, 2) := by decide +kernel
theorem dX0_init_62 : decode cX0_init 62 = .ok (.putfield 34, 3) := by decide +kernel
theorem dX0_init_65 : decode cX0_init 65 = .ok (.aload_n 0, 1) := by decide +kernel
theorem dX0_init_66 : decode cX0_init 66 = .ok (.iconst 5, 1) := by decide +kernel
theorem dX0_init_67 : decode cX0_init 67 = .ok (.putfield 37, 3) := by decide +kernel
theorem dX0_init_70 : decode cX0_init 70 = .ok (.aload_n 0, 1) := by decide +kernel
theorem dX0_init_71 : decode cX0_init 71 = .ok (.iconst 0, 1) := by decide +kernel
theorem dX0_init_72 : decode cX0_init 72 = .ok (.putfield 40, 3) := by decide +kernel
theorem dX0_init_75 : decode cX0_init 75 = .ok (.aload_n 0, 1) := by decide +kernel
theorem dX0_init_76 : decode cX0_init 76 = .ok (.bipush 10, 2) := by decide +kernel
theorem dX0_init_78 : decode cX0_init 78 = .ok (.putfield 43, 3) := by decide +kernel
theorem dX0_init_81 : decode cX0_init 81 = .ok (.aload_n 0, 1) := by decide +kernel
theorem dX0_init_82 : decode cX0_init 82 = .ok (.iconst 0, 1) := by decide +kernel
theorem dX0_init_83 : decode cX0_init 83 = .ok (.putfield 46, 3) := by decide +kernel
theorem dX0_init_86 : decode cX0_init 86 = .ok (.aload_n 0, 1) := by decide +kernel
theorem dX0_init_87 : decode cX0_init 87 = .ok (.new 49, 3) := by decide +kernel
theorem dX0_init_90 : decode cX0_init 90 = .ok (.dup, 1) := by decide +kernel
theorem dX0_init_91 : decode cX0_init 91 = .ok (.invokespecial 51, 3) := by decide +kernel
theorem dX0_init_94 : decode cX0_init 94 = .ok (.putfield 52, 3) := by decide +kernel
theorem dX0_init_97 : decode cX0_init 97 = .ok (.return_, 1) := by decide +kernel
theorem dX0_copyFrom_0 : decode cX0_copyFrom 0 = .ok (.aload_n 0, 1) := by decide +kernel
theorem dX0_copyFrom_1 : decode cX0_copyFrom 1 = .ok (.aload_n 1, 1) := by decide +kernel
theorem dX0_copyFrom_2 : decode cX0_copyFrom 2 = .ok (.getfield 9, 3) := by decide +kernel
theorem dX0_copyFrom_5 : decode cX0_copyFrom 5 = .ok (.putfield 9, 3) := by decide +kernel
theorem dX0_copyFrom_8 : decode cX0_copyFrom 8 = .ok (.aload_n 1, 1) := by decide +kernel
theorem dX0_copyFrom_9 : decode cX0_copyFrom 9 = .ok (.getfield 15, 3) := by decide +kernel
theorem dX0_copyFrom_12 : decode cX0_copyFrom 12 = .ok (.aload_n 0, 1) := by decide +kernel
theorem dX0_copyFrom_13 : decode cX0_copyFrom 13 = .ok (.getfield 15, 3) := by decide +kernel
theorem dX0_copyFrom_16 : decode cX0_copyFrom 16 = .ok (.invokestatic 56, 3) := by decide +kernel
theorem dX0_copyFrom_19 : decode cX0_copyFrom 19 = .ok (.aload_n 1, 1) := by decide +kernel
theorem dX0_copyFrom_20 : decode cX0_copyFrom 20 = .ok (.getfield 19, 3) := by decide +kernel
theorem dX0_copyFrom_23 : decode cX0_copyFrom 23 = .ok (.aload_n 0, 1) := by decide +kernel
theorem dX0_copyFrom_24 : decode cX0_copyFrom 24 = .ok (.getfield 19, 3) := by decide +kernel
theorem dX0_copyFrom_27 : decode cX0_copyFrom 27 = .ok (.invokestatic 56, 3) := by decide +kernel
theorem dX0_copyFrom_30 : decode cX0_copyFrom 30 = .ok (.aload_n 1, 1) := by decide +kernel
theorem dX0_copyFrom_31 : decode cX0_copyFrom 31 = .ok (.getfield 22, 3) := by decide +kernel
theorem dX0_copyFrom_34 : decode cX0_copyFrom 34 = .ok (.aload_n 0, 1) := by decide +kernel
theorem dX0_copyFrom_35 : decode cX0_copyFrom 35 = .ok (.getfield 22, 3) := by decide +kernel
theorem dX0_copyFrom_38 : decode cX0_copyFrom 38 = .ok (.invokestatic 56, 3) := by decide +kernel
theorem dX0_copyFrom_41 : decode cX0_copyFrom 41 = .ok (.aload_n 1, 1) := by decide +kernel
theorem dX0_copyFrom_42 : decode cX0_copyFrom 42 = .ok (.getfield 25, 3) := by decide +kernel
theorem dX0_copyFrom_45 : decode cX0_copyFrom 45 = .ok (.aload_n 0, 1) := by decide +kernel
theorem dX0_copyFrom_46 : decode cX0_copyFrom 46 = .ok (.getfield 25, 3) := by decide +kernel
theorem dX0_copyFrom_49 : decode cX0_copyFrom 49 = .ok (.invokestatic 56, 3) := by decide +kernel
theorem dX0_copyFrom_52 : decode cX0_copyFrom 52 = .ok (.aload_n 1, 1) := by decide +kernel
theorem dX0_copyFrom_53 : decode cX0_copyFrom 53 = .ok (.getfield 28, 3) := by decide +kernel
theorem dX0_copyFrom_56 : decode cX0_copyFrom 56 = .ok (.aload_n 0, 1) := by decide +kernel
theorem dX0_copyFrom_57 : decode cX0_copyFrom 57 = .ok (.getfield 28, 3) := by decide +kernel
theorem dX0_copyFrom_60 : decode cX0_copyFrom 60 = .ok (.invokestatic 56, 3) := by decide +kernel
theorem dX0_copyFrom_63 : decode cX0_copyFrom 63 = .ok (.aload_n 1, 1) := by decide +kernel
theorem dX0_copyFrom_64 : decode cX0_copyFrom 64 = .ok (.getfield 31, 3) := by decide +kernel
theorem dX0_copyFrom_67 : decode cX0_copyFrom 67 = .ok (.aload_n 0, 1) := by decide +kernel
theorem dX0_copyFrom_68 : decode cX0_copyFrom 68 = .ok (.getfield 31, 3) := by decide +kernel
theorem dX0_copyFrom_71 : decode cX0_copyFrom 71 = .ok (.invokestatic 56, 3) := by decide +kernel
theorem dX0_copyFrom_74 : decode cX0_copyFrom 74 = .ok (.aload_n 1, 1) := by decide +kernel
theorem dX0_copyFrom_75 : decode cX0_copyFrom 75 = .ok (.getfield 34, 3) := by decide +kernel
theorem dX0_copyFrom_78 : decode cX0_copyFrom 78 = .ok (.aload_n 0, 1) := by decide +kernel
theorem dX0_copyFrom_79 : decode cX0_copyFrom 79 = .ok (.getfield 34, 3) := by decide +kernel
theorem dX0_copyFrom_82 : decode cX0_copyFrom 82 = .ok (.invokestatic 56, 3) := by decide +kernel
theorem dX0_copyFrom_85 : decode cX0_copyFrom 85 = .ok (.aload_n 0, 1) := by decide +kernel
theorem dX0_copyFrom_86 : decode cX0_copyFrom 86 = .ok (.aload_n 1, 1) := by decide +kernel
theorem dX0_copyFrom_87 : decode cX0_copyFrom 87 = .ok (.getfield 37, 3) := by decide +kernel
theorem dX0_copyFrom_90 : decode cX0_copyFrom 90 = .ok (.putfield 37, 3) := by decide +kernel
theorem dX0_copyFrom_93 : decode cX0_copyFrom 93 = .ok (.aload_n 0, 1) := by decide +kernel
theorem dX0_copyFrom_94 : decode cX0_copyFrom 94 = .ok (.aload_n 1, 1) := by decide +kernel
theorem dX0_copyFrom_95 : decode cX0_copyFrom 95 = .ok (.getfield 40, 3) := by decide +kernel
theorem dX0_copyFrom_98 : decode cX0_copyFrom 98 = .ok (.putfield 40, 3) := by decide +kernel
theorem dX0_copyFrom_101 : decode cX0_copyFrom 101 = .ok (.aload_n 0, 1) := by decide +kernel
theorem dX0_copyFrom_102 : decode cX0_copyFrom 102 = .ok (.aload_n 1, 1) := by decide +kernel
theorem dX0_copyFrom_103 : decode cX0_copyFrom 103 = .ok (.getfield 43, 3) := by decide +kernel
theorem dX0_copyFrom_106 : decode cX0_copyFrom 106 = .ok (.putfield 43, 3) := by decide +kernel
theorem dX0_copyFrom_109 : decode cX0_copyFrom 109 = .ok (.aload_n 0, 1) := by decide +kernel
theorem dX0_copyFrom_110 : decode cX0_copyFrom 110 = .ok (.aload_n 1, 1) := by decide +kernel
theorem dX0_copyFrom_111 : decode cX0_copyFrom 111 = .ok (.getfield 46, 3) := by decide +kernel
theorem dX0_copyFrom_114 : decode cX0_copyFrom 114 = .ok (.putfield 46, 3) := by decide +kernel
theorem dX0_copyFrom_117 : decode cX0_copyFrom 117 = .ok (.return_, 1) := by decide +kernel
theorem dX0_has_0 : decode cX0_has 0 = .ok (.iload_n 1, 1) := by decide +kernel
theorem dX0_has_1 : decode cX0_has 1 = .ok (.ifCond .lt 15, 3) := by decide +kernel
theorem dX0_has_4 : decode cX0_has 4 = .ok (.iload_n 1, 1) := by decide +kernel
theorem dX0_has_5 : decode cX0_has 5 = .ok (.aload_n 0, 1) := by decide +kernel
theorem dX0_has_6 : decode cX0_has 6 = .ok (.getfield 9, 3) := by decide +kernel
theorem dX0_has_9 : decode cX0_has 9 = .ok (.if_icmp .ge 7, 3) := by decide +kernel
theorem dX0_has_12 : decode cX0_has 12 = .ok (.iconst 1, 1) := by decide +kernel
theorem dX0_has_13 : decode cX0_has 13 = .ok (.goto 4, 3) := by decide +kernel
theorem dX0_has_16 : decode cX0_has 16 = .ok (.iconst 0, 1) := by decide +kernel
theorem dX0_has_17 : decode cX0_has 17 = .ok (.ireturn, 1) := by decide +kernel
theorem dX0_addCaller_0 : decode cX0_addCaller 0 = .ok (.aload_n 0, 1) := by decide +kernel
theorem dX0_addCaller_1 : decode cX0_addCaller 1 = .ok (.getfield 9, 3) := by decide +kernel
theorem dX0_addCaller_4 : decode cX0_addCaller 4 = .ok (.bipush 7, 2) := by decide +kernel
theorem dX0_addCaller_6 : decode cX0_addCaller 6 = .ok (.if_icmp .lt 4, 3) := by decide +kernel
theorem dX0_addCaller_9 : decode cX0_addCaller 9 = .ok (.return_, 1) := by decide +kernel
theorem dX0_addCaller_10 : decode cX0_addCaller 10 = .ok (.aload_n 0, 1) := by decide +kernel
theorem dX0_addCaller_11 : decode cX0_addCaller 11 = .ok (.getfield 15, 3) := by decide +kernel
theorem dX0_addCaller_14 : decode cX0_addCaller 14 = .ok (.aload_n 0, 1) := by decide +kernel
theorem dX0_addCaller_15 : decode cX0_addCaller 15 = .ok (.getfield 9, 3) := by decide +kernel
theorem dX0_addCaller_18 : decode cX0_addCaller 18 = .ok (.iload_n 1, 1) := by decide +kernel
theorem dX0_addCaller_19 : decode cX0_addCaller 19 = .ok (.invokestatic 60, 3) := by decide +kernel
theorem dX0_addCaller_22 : decode cX0_addCaller 22 = .ok (.aload_n 0, 1) := by decide +kernel
theorem dX0_addCaller_23 : decode cX0_addCaller 23 = .ok (.getfield 19, 3) := by decide +kernel
theorem dX0_addCaller_26 : decode cX0_addCaller 26 = .ok (.aload_n 0, 1) := by decide +kernel
theorem dX0_addCaller_27 : decode cX0_addCaller 27 = .ok (.getfield 9, 3) := by decide +kernel
theorem dX0_addCaller_30 : decode cX0_addCaller 30 = .ok (.iload_n 2, 1) := by decide +kernel
theorem dX0_addCaller_31 : decode cX0_addCaller 31 = .ok (.invokestatic 60, 3) := by decide +kernel
theorem dX0_addCaller_34 : decode cX0_addCaller 34 = .ok (.aload_n 0, 1) := by decide +kernel
theorem dX0_addCaller_35 : decode cX0_addCaller 35 = .ok (.getfield 22, 3) := by decide +kernel
theorem dX0_addCaller_38 : decode cX0_addCaller 38 = .ok (.aload_n 0, 1) := by decide +kernel
theorem dX0_addCaller_39 : decode cX0_addCaller 39 = .ok (.getfield 9, 3) := by decide +kernel
theorem dX0_addCaller_42 : decode cX0_addCaller 42 = .ok (.iload_n 3, 1) := by decide +kernel
theorem dX0_addCaller_43 : decode cX0_addCaller 43 = .ok (.invokestatic 60, 3) := by decide +kernel
theorem dX0_addCaller_46 : decode cX0_addCaller 46 = .ok (.aload_n 0, 1) := by decide +kernel
theorem dX0_addCaller_47 : decode cX0_addCaller 47 = .ok (.getfield 25, 3) := by decide +kernel
theorem dX0_addCaller_50 : decode cX0_addCaller 50 = .ok (.aload_n 0, 1) := by decide +kernel
theorem dX0_addCaller_51 : decode cX0_addCaller 51 = .ok (.getfield 9, 3) := by decide +kernel
theorem dX0_addCaller_54 : decode cX0_addCaller 54 = .ok (.iload 4, 2) := by decide +kernel
theorem dX0_addCaller_56 : decode cX0_addCaller 56 = .ok (.invokestatic 60, 3) := by decide +kernel
theorem dX0_addCaller_59 : decode cX0_addCaller 59 = .ok (.aload_n 0, 1) := by decide +kernel
theorem dX0_addCaller_60 : decode cX0_addCaller 60 = .ok (.getfield 28, 3) := by decide +kernel
theorem dX0_addCaller_63 : decode cX0_addCaller 63 = .ok (.aload_n 0, 1) := by decide +kernel
theorem dX0_addCaller_64 : decode cX0_addCaller 64 = .ok (.getfield 9, 3) := by decide +kernel
theorem dX0_addCaller_67 : decode cX0_addCaller 67 = .ok (.iload 5, 2) := by decide +kernel
theorem dX0_addCaller_69 : decode cX0_addCaller 69 = .ok (.invokestatic 60, 3) := by decide +kernel
theorem dX0_addCaller_72 : decode cX0_addCaller 72 = .ok (.aload_n 0, 1) := by decide +kernel
theorem dX0_addCaller_73 : decode cX0_addCaller 73 = .ok (.dup, 1) := by decide +kernel
theorem dX0_addCaller_74 : decode cX0_addCaller 74 = .ok (.getfield 9, 3) := by decide +kernel
theorem dX0_addCaller_77 : decode cX0_addCaller 77 = .ok (.iconst 1, 1) := by decide +kernel
theorem dX0_addCaller_78 : decode cX0_addCaller 78 = .ok (.iadd, 1) := by decide +kernel
theorem dX0_addCaller_79 : decode cX0_addCaller 79 = .ok (.putfield 9, 3) := by decide +kernel
theorem dX0_addCaller_82 : decode cX0_addCaller 82 = .ok (.aload_n 0, 1) := by decide +kernel
theorem dX0_addCaller_83 : decode cX0_addCaller 83 = .ok (.invokevirtual 64, 3) := by decide +kernel
theorem dX0_addCaller_86 : decode cX0_addCaller 86 = .ok (.return_, 1) := by decide +kernel
theorem dX0_moveTo_0 : decode cX0_moveTo 0 = .ok (.aload_n 0, 1) := by decide +kernel
theorem dX0_moveTo_1 : decode cX0_moveTo 1 = .ok (.getfield 28, 3) := by decide +kernel
theorem dX0_moveTo_4 : decode cX0_moveTo 4 = .ok (.iload_n 1, 1) := by decide +kernel
theorem dX0_moveTo_5 : decode cX0_moveTo 5 = .ok (.iload_n 2, 1) := by decide +kernel
theorem dX0_moveTo_6 : decode cX0_moveTo 6 = .ok (.invokestatic 60, 3) := by decide +kernel
theorem dX0_moveTo_9 : decode cX0_moveTo 9 = .ok (.aload_n 0, 1) := by decide +kernel
theorem dX0_moveTo_10 : decode cX0_moveTo 10 = .ok (.invokevirtual 64, 3) := by decide +kernel
theorem dX0_moveTo_13 : decode cX0_moveTo 13 = .ok (.return_, 1) := by decide +kernel
theorem dX0_moveAllTo_0 : decode cX0_moveAllTo 0 = .ok (.aload_n 0, 1) := by decide +kernel
theorem dX0_moveAllTo_1 : decode cX0_moveAllTo 1 = .ok (.getfield 28, 3) := by decide +kernel
theorem dX0_moveAllTo_4 : decode cX0_moveAllTo 4 = .ok (.iload_n 1, 1) := by decide +kernel
theorem dX0_moveAllTo_5 : decode cX0_moveAllTo 5 = .ok (.invokestatic 67, 3) := by decide +kernel
theorem dX0_moveAllTo_8 : decode cX0_moveAllTo 8 = .ok (.aload_n 0, 1) := by decide +kernel
theorem dX0_moveAllTo_9 : decode cX0_moveAllTo 9 = .ok (.invokevirtual 64, 3) := by decide +kernel
theorem dX0_moveAllTo_12 : decode cX0_moveAllTo 12 = .ok (.return_, 1) := by decide +kernel
theorem dX0_arrange_0 : decode cX0_arrange 0 = .ok (.iconst 0, 1) := by decide +kernel
theorem dX0_arrange_1 : decode cX0_arrange 1 = .ok (.istore_n 1, 1) := by decide +kernel
theorem dX0_arrange_2 : decode cX0_arrange 2 = .ok (.iconst 0, 1) := by decide +kernel
theorem dX0_arrange_3 : decode cX0_arrange 3 = .ok (.istore_n 2, 1) := by decide +kernel
theorem dX0_arrange_4 : decode cX0_arrange 4 = .ok (.iload_n 2, 1) := by decide +kernel
theorem dX0_arrange_5 : decode cX0_arrange 5 = .ok (.bipush 24, 2) := by decide +kernel
theorem dX0_arrange_7 : decode cX0_arrange 7 = .ok (.if_icmp .ge 57, 3) := by decide +kernel
theorem dX0_arrange_10 : decode cX0_arrange 10 = .ok (.iload_n 1, 1) := by decide +kernel
theorem dX0_arrange_11 : decode cX0_arrange 11 = .ok (.aload_n 0, 1) := by decide +kernel
theorem dX0_arrange_12 : decode cX0_arrange 12 = .ok (.getfield 9, 3) := by decide +kernel
theorem dX0_arrange_15 : decode cX0_arrange 15 = .ok (.if_icmp .ge 49, 3) := by decide +kernel
theorem dX0_arrange_18 : decode cX0_arrange 18 = .ok (.iconst 0, 1) := by decide +kernel
theorem dX0_arrange_19 : decode cX0_arrange 19 = .ok (.istore_n 3, 1) := by decide +kernel
theorem dX0_arrange_20 : decode cX0_arrange 20 = .ok (.iload_n 3, 1) := by decide +kernel
theorem dX0_arrange_21 : decode cX0_arrange 21 = .ok (.aload_n 0, 1) := by decide +kernel
theorem dX0_arrange_22 : decode cX0_arrange 22 = .ok (.getfield 9, 3) := by decide +kernel
theorem dX0_arrange_25 : decode cX0_arrange 25 = .ok (.if_icmp .ge 33, 3) := by decide +kernel
theorem dX0_arrange_28 : decode cX0_arrange 28 = .ok (.aload_n 0, 1) := by decide +kernel
theorem dX0_arrange_29 : decode cX0_arrange 29 = .ok (.getfield 28, 3) := by decide +kernel
theorem dX0_arrange_32 : decode cX0_arrange 32 = .ok (.iload_n 3, 1) := by decide +kernel
theorem dX0_arrange_33 : decode cX0_arrange 33 = .ok (.invokestatic 73, 3) := by decide +kernel
theorem dX0_arrange_36 : decode cX0_arrange 36 = .ok (.iload_n 2, 1) := by decide +kernel
theorem dX0_arrange_37 : decode cX0_arrange 37 = .ok (.if_icmp .ne 15, 3) := by decide +kernel
theorem dX0_arrange_40 : decode cX0_arrange 40 = .ok (.aload_n 0, 1) := by decide +kernel
theorem dX0_arrange_41 : decode cX0_arrange 41 = .ok (.getfield 31, 3) := by decide +kernel
theorem dX0_arrange_44 : decode cX0_arrange 44 = .ok (.iload_n 1, 1) := by decide +kernel
theorem dX0_arrange_45 : decode cX0_arrange 45 = .ok (.iload_n 3, 1) := by decide +kernel
theorem dX0_arrange_46 : decode cX0_arrange 46 = .ok (.invokestatic 60, 3) := by decide +kernel
theorem dX0_arrange_49 : decode cX0_arrange 49 = .ok (.iinc 1 1, 3) := by decide +kernel
theorem dX0_arrange_52 : decode cX0_arrange 52 = .ok (.iinc 3 1, 3) := by decide +kernel
theorem dX0_arrange_55 : decode cX0_arrange 55 = .ok (.goto (-35), 3) := by decide +kernel
theorem dX0_arrange_58 : decode cX0_arrange 58 = .ok (.iinc 2 1, 3) := by decide +kernel
theorem dX0_arrange_61 : decode cX0_arrange 61 = .ok (.goto (-57), 3) := by decide +kernel
theorem dX0_arrange_64 : decode cX0_arrange 64 = .ok (.return_, 1) := by decide +kernel
theorem dX0_isSilent_0 : decode cX0_isSilent 0 = .ok (.aload_n 0, 1) := by decide +kernel
theorem dX0_isSilent_1 : decode cX0_isSilent 1 = .ok (.getfield 40, 3) := by decide +kernel
theorem dX0_isSilent_4 : decode cX0_isSilent 4 = .ok (.aload_n 0, 1) := by decide +kernel
theorem dX0_isSilent_5 : decode cX0_isSilent 5 = .ok (.getfield 43, 3) := by decide +kernel
theorem dX0_isSilent_8 : decode cX0_isSilent 8 = .ok (.if_icmp .le 7, 3) := by decide +kernel
theorem dX0_isSilent_11 : decode cX0_isSilent 11 = .ok (.iconst 1, 1) := by decide +kernel
theorem dX0_isSilent_12 : decode cX0_isSilent 12 = .ok (.goto 4, 3) := by decide +kernel
theorem dX0_isSilent_15 : decode cX0_isSilent 15 = .ok (.iconst 0, 1) := by decide +kernel
theorem dX0_isSilent_16 : decode cX0_isSilent 16 = .ok (.ireturn, 1) := by decide +kernel
theorem dX0_isCalled_0 : decode cX0_isCalled 0 = .ok (.iconst 0, 1) := by decide +kernel
theorem dX0_isCalled_1 : decode cX0_isCalled 1 = .ok (.istore_n 2, 1) := by decide +kernel
theorem dX0_isCalled_2 : decode cX0_isCalled 2 = .ok (.iload_n 2, 1) := by decide +kernel
theorem dX0_isCalled_3 : decode cX0_isCalled 3 = .ok (.aload_n 0, 1) := by decide +kernel
theorem dX0_isCalled_4 : decode cX0_isCalled 4 = .ok (.getfield 9, 3) := by decide +kernel
theorem dX0_isCalled_7 : decode cX0_isCalled 7 = .ok (.if_icmp .ge 23, 3) := by decide +kernel
theorem dX0_isCalled_10 : decode cX0_isCalled 10 = .ok (.aload_n 0, 1) := by decide +kernel
theorem dX0_isCalled_11 : decode cX0_isCalled 11 = .ok (.getfield 25, 3) := by decide +kernel
theorem dX0_isCalled_14 : decode cX0_isCalled 14 = .ok (.iload_n 2, 1) := by decide +kernel
theorem dX0_isCalled_15 : decode cX0_isCalled 15 = .ok (.invokestatic 73, 3) := by decide +kernel
theorem dX0_isCalled_18 : decode cX0_isCalled 18 = .ok (.iload_n 1, 1) := by decide +kernel
theorem dX0_isCalled_19 : decode cX0_isCalled 19 = .ok (.if_icmp .ne 5, 3) := by decide +kernel
theorem dX0_isCalled_22 : decode cX0_isCalled 22 = .ok (.iconst 1, 1) := by decide +kernel
theorem dX0_isCalled_23 : decode cX0_isCalled 23 = .ok (.ireturn, 1) := by decide +kernel
theorem dX0_isCalled_24 : decode cX0_isCalled 24 = .ok (.iinc 2 1, 3) := by decide +kernel
theorem dX0_isCalled_27 : decode cX0_isCalled 27 = .ok (.goto (-25), 3) := by decide +kernel
theorem dX0_isCalled_30 : decode cX0_isCalled 30 = .ok (.iconst 0, 1) := by decide +kernel
theorem dX0_isCalled_31 : decode cX0_isCalled 31 = .ok (.ireturn, 1) := by decide +kernel
theorem dX0_allKnown_0 : decode cX0_allKnown 0 = .ok (.iconst 0, 1) := by decide +kernel
theorem dX0_allKnown_1 : decode cX0_allKnown 1 = .ok (.istore_n 1, 1) := by decide +kernel
theorem dX0_allKnown_2 : decode cX0_allKnown 2 = .ok (.iconst 0, 1) := by decide +kernel
theorem dX0_allKnown_3 : decode cX0_allKnown 3 = .ok (.istore_n 2, 1) := by decide +kernel
theorem dX0_allKnown_4 : decode cX0_allKnown 4 = .ok (.iload_n 2, 1) := by decide +kernel
theorem dX0_allKnown_5 : decode cX0_allKnown 5 = .ok (.aload_n 0, 1) := by decide +kernel
theorem dX0_allKnown_6 : decode cX0_allKnown 6 = .ok (.getfield 34, 3) := by decide +kernel
theorem dX0_allKnown_9 : decode cX0_allKnown 9 = .ok (.arraylength, 1) := by decide +kernel
theorem dX0_allKnown_10 : decode cX0_allKnown 10 = .ok (.if_icmp .ge 18, 3) := by decide +kernel
theorem dX0_allKnown_13 : decode cX0_allKnown 13 = .ok (.iload_n 1, 1) := by decide +kernel
theorem dX0_allKnown_14 : decode cX0_allKnown 14 = .ok (.aload_n 0, 1) := by decide +kernel
theorem dX0_allKnown_15 : decode cX0_allKnown 15 = .ok (.getfield 34, 3) := by decide +kernel
theorem dX0_allKnown_18 : decode cX0_allKnown 18 = .ok (.iload_n 2, 1) := by decide +kernel
theorem dX0_allKnown_19 : decode cX0_allKnown 19 = .ok (.iaload, 1) := by decide +kernel
theorem dX0_allKnown_20 : decode cX0_allKnown 20 = .ok (.iadd, 1) := by decide +kernel
theorem dX0_allKnown_21 : decode cX0_allKnown 21 = .ok (.istore_n 1, 1) := by decide +kernel
theorem dX0_allKnown_22 : decode cX0_allKnown 22 = .ok (.iinc 2 1, 3) := by decide +kernel
theorem dX0_allKnown_25 : decode cX0_allKnown 25 = .ok (.goto (-21), 3) := by decide +kernel
theorem dX0_allKnown_28 : decode cX0_allKnown 28 = .ok (.iload_n 1, 1) := by decide +kernel
theorem dX0_allKnown_29 : decode cX0_allKnown 29 = .ok (.ireturn, 1) := by decide +kernel
theorem dX0_bestBut_0 : decode cX0_bestBut 0 = .ok (.bipush (-9), 2) := by decide +kernel
theorem dX0_bestBut_2 : decode cX0_bestBut 2 = .ok (.istore_n 2, 1) := by decide +kernel
theorem dX0_bestBut_3 : decode cX0_bestBut 3 = .ok (.iconst 0, 1) := by decide +kernel
theorem dX0_bestBut_4 : decode cX0_bestBut 4 = .ok (.istore_n 3, 1) := by decide +kernel
theorem dX0_bestBut_5 : decode cX0_bestBut 5 = .ok (.iconst 0, 1) := by decide +kernel
theorem dX0_bestBut_6 : decode cX0_bestBut 6 = .ok (.istore 4, 2) := by decide +kernel
theorem dX0_bestBut_8 : decode cX0_bestBut 8 = .ok (.iload 4, 2) := by decide +kernel
theorem dX0_bestBut_10 : decode cX0_bestBut 10 = .ok (.aload_n 0, 1) := by decide +kernel
theorem dX0_bestBut_11 : decode cX0_bestBut 11 = .ok (.getfield 34, 3) := by decide +kernel
theorem dX0_bestBut_14 : decode cX0_bestBut 14 = .ok (.arraylength, 1) := by decide +kernel
theorem dX0_bestBut_15 : decode cX0_bestBut 15 = .ok (.if_icmp .ge 37, 3) := by decide +kernel
theorem dX0_bestBut_18 : decode cX0_bestBut 18 = .ok (.iload 4, 2) := by decide +kernel
theorem dX0_bestBut_20 : decode cX0_bestBut 20 = .ok (.iload_n 1, 1) := by decide +kernel
theorem dX0_bestBut_21 : decode cX0_bestBut 21 = .ok (.if_icmp .eq 25, 3) := by decide +kernel
theorem dX0_bestBut_24 : decode cX0_bestBut 24 = .ok (.aload_n 0, 1) := by decide +kernel
theorem dX0_bestBut_25 : decode cX0_bestBut 25 = .ok (.getfield 34, 3) := by decide +kernel
theorem dX0_bestBut_28 : decode cX0_bestBut 28 = .ok (.iload 4, 2) := by decide +kernel
theorem dX0_bestBut_30 : decode cX0_bestBut 30 = .ok (.iaload, 1) := by decide +kernel
theorem dX0_bestBut_31 : decode cX0_bestBut 31 = .ok (.iload_n 3, 1) := by decide +kernel
theorem dX0_bestBut_32 : decode cX0_bestBut 32 = .ok (.if_icmp .le 14, 3) := by decide +kernel
theorem dX0_bestBut_35 : decode cX0_bestBut 35 = .ok (.aload_n 0, 1) := by decide +kernel
theorem dX0_bestBut_36 : decode cX0_bestBut 36 = .ok (.getfield 34, 3) := by decide +kernel
theorem dX0_bestBut_39 : decode cX0_bestBut 39 = .ok (.iload 4, 2) := by decide +kernel
theorem dX0_bestBut_41 : decode cX0_bestBut 41 = .ok (.iaload, 1) := by decide +kernel
theorem dX0_bestBut_42 : decode cX0_bestBut 42 = .ok (.istore_n 3, 1) := by decide +kernel
theorem dX0_bestBut_43 : decode cX0_bestBut 43 = .ok (.iload 4, 2) := by decide +kernel
theorem dX0_bestBut_45 : decode cX0_bestBut 45 = .ok (.istore_n 2, 1) := by decide +kernel
theorem dX0_bestBut_46 : decode cX0_bestBut 46 = .ok (.iinc 4 1, 3) := by decide +kernel
theorem dX0_bestBut_49 : decode cX0_bestBut 49 = .ok (.goto (-41), 3) := by decide +kernel
theorem dX0_bestBut_52 : decode cX0_bestBut 52 = .ok (.iload_n 2, 1) := by decide +kernel
theorem dX0_bestBut_53 : decode cX0_bestBut 53 = .ok (.ireturn, 1) := by decide +kernel
theorem dX0_wouldAnswer_0 : decode cX0_wouldAnswer 0 = .ok (.aload_n 0, 1) := by decide +kernel
theorem dX0_wouldAnswer_1 : decode cX0_wouldAnswer 1 = .ok (.getfield 22, 3) := by decide +kernel
theorem dX0_wouldAnswer_4 : decode cX0_wouldAnswer 4 = .ok (.iload_n 1, 1) := by decide +kernel
theorem dX0_wouldAnswer_5 : decode cX0_wouldAnswer 5 = .ok (.invokestatic 73, 3) := by decide +kernel
theorem dX0_wouldAnswer_8 : decode cX0_wouldAnswer 8 = .ok (.aload_n 0, 1) := by decide +kernel
theorem dX0_wouldAnswer_9 : decode cX0_wouldAnswer 9 = .ok (.getfield 37, 3) := by decide +kernel
theorem dX0_wouldAnswer_12 : decode cX0_wouldAnswer 12 = .ok (.isub, 1) := by decide +kernel
theorem dX0_wouldAnswer_13 : decode cX0_wouldAnswer 13 = .ok (.invokestatic 77, 3) := by decide +kernel
theorem dX0_wouldAnswer_16 : decode cX0_wouldAnswer 16 = .ok (.istore_n 2, 1) := by decide +kernel
theorem dX0_wouldAnswer_17 : decode cX0_wouldAnswer 17 = .ok (.aload_n 0, 1) := by decide +kernel
theorem dX0_wouldAnswer_18 : decode cX0_wouldAnswer 18 = .ok (.invokevirtual 83, 3) := by decide +kernel
theorem dX0_wouldAnswer_21 : decode cX0_wouldAnswer 21 = .ok (.ifCond .ne 25, 3) := by decide +kernel
theorem dX0_wouldAnswer_24 : decode cX0_wouldAnswer 24 = .ok (.iload_n 2, 1) := by decide +kernel
theorem dX0_wouldAnswer_25 : decode cX0_wouldAnswer 25 = .ok (.getstatic 87, 3) := by decide +kernel
theorem dX0_wouldAnswer_28 : decode cX0_wouldAnswer 28 = .ok (.aload_n 0, 1) := by decide +kernel
theorem dX0_wouldAnswer_29 : decode cX0_wouldAnswer 29 = .ok (.getfield 15, 3) := by decide +kernel
theorem dX0_wouldAnswer_32 : decode cX0_wouldAnswer 32 = .ok (.iload_n 1, 1) := by decide +kernel
theorem dX0_wouldAnswer_33 : decode cX0_wouldAnswer 33 = .ok (.invokestatic 73, 3) := by decide +kernel
theorem dX0_wouldAnswer_36 : decode cX0_wouldAnswer 36 = .ok (.invokestatic 73, 3) := by decide +kernel
theorem dX0_wouldAnswer_39 : decode cX0_wouldAnswer 39 = .ok (.if_icmp .gt 7, 3) := by decide +kernel
theorem dX0_wouldAnswer_42 : decode cX0_wouldAnswer 42 = .ok (.iconst 1, 1) := by decide +kernel
theorem dX0_wouldAnswer_43 : decode cX0_wouldAnswer 43 = .ok (.goto 4, 3) := by decide +kernel
theorem dX0_wouldAnswer_46 : decode cX0_wouldAnswer 46 = .ok (.iconst 0, 1) := by decide +kernel
theorem dX0_wouldAnswer_47 : decode cX0_wouldAnswer 47 = .ok (.ireturn, 1) := by decide +kernel
theorem dX0_wordOrNone_0 : decode cX0_wordOrNone 0 = .ok (.aload_n 0, 1) := by decide +kernel
theorem dX0_wordOrNone_1 : decode cX0_wordOrNone 1 = .ok (.iload_n 1, 1) := by decide +kernel
theorem dX0_wordOrNone_2 : decode cX0_wordOrNone 2 = .ok (.invokevirtual 90, 3) := by decide +kernel
theorem dX0_wordOrNone_5 : decode cX0_wordOrNone 5 = .ok (.ifCond .eq 11, 3) := by decide +kernel
theorem dX0_wordOrNone_8 : decode cX0_wordOrNone 8 = .ok (.aload_n 0, 1) := by decide +kernel
theorem dX0_wordOrNone_9 : decode cX0_wordOrNone 9 = .ok (.iload_n 1, 1) := by decide +kernel
theorem dX0_wordOrNone_10 : decode cX0_wordOrNone 10 = .ok (.invokevirtual 94, 3) := by decide +kernel
theorem dX0_wordOrNone_13 : decode cX0_wordOrNone 13 = .ok (.goto 5, 3) := by decide +kernel
theorem dX0_wordOrNone_16 : decode cX0_wordOrNone 16 = .ok (.bipush (-9), 2) := by decide +kernel
theorem dX0_wordOrNone_18 : decode cX0_wordOrNone 18 = .ok (.ireturn, 1) := by decide +kernel
theorem dX0_wordFor_0 : decode cX0_wordFor 0 = .ok (.aload_n 0, 1) := by decide +kernel
theorem dX0_wordFor_1 : decode cX0_wordFor 1 = .ok (.getfield 25, 3) := by decide +kernel
theorem dX0_wordFor_4 : decode cX0_wordFor 4 = .ok (.iload_n 1, 1) := by decide +kernel
theorem dX0_wordFor_5 : decode cX0_wordFor 5 = .ok (.invokestatic 73, 3) := by decide +kernel
theorem dX0_wordFor_8 : decode cX0_wordFor 8 = .ok (.istore_n 2, 1) := by decide +kernel
theorem dX0_wordFor_9 : decode cX0_wordFor 9 = .ok (.getstatic 97, 3) := by decide +kernel
theorem dX0_wordFor_12 : decode cX0_wordFor 12 = .ok (.aload_n 0, 1) := by decide +kernel
theorem dX0_wordFor_13 : decode cX0_wordFor 13 = .ok (.getfield 15, 3) := by decide +kernel
theorem dX0_wordFor_16 : decode cX0_wordFor 16 = .ok (.iload_n 1, 1) := by decide +kernel
theorem dX0_wordFor_17 : decode cX0_wordFor 17 = .ok (.invokestatic 73, 3) := by decide +kernel
theorem dX0_wordFor_20 : decode cX0_wordFor 20 = .ok (.invokestatic 73, 3) := by decide +kernel
theorem dX0_wordFor_23 : decode cX0_wordFor 23 = .ok (.istore_n 3, 1) := by decide +kernel
theorem dX0_wordFor_24 : decode cX0_wordFor 24 = .ok (.iload_n 3, 1) := by decide +kernel
theorem dX0_wordFor_25 : decode cX0_wordFor 25 = .ok (.iconst 2, 1) := by decide +kernel
theorem dX0_wordFor_26 : decode cX0_wordFor 26 = .ok (.if_icmp .ne 10, 3) := by decide +kernel
theorem dX0_wordFor_29 : decode cX0_wordFor 29 = .ok (.iload_n 2, 1) := by decide +kernel
theorem dX0_wordFor_30 : decode cX0_wordFor 30 = .ok (.iconst 1, 1) := by decide +kernel
theorem dX0_wordFor_31 : decode cX0_wordFor 31 = .ok (.iadd, 1) := by decide +kernel
theorem dX0_wordFor_32 : decode cX0_wordFor 32 = .ok (.bipush 8, 2) := by decide +kernel
theorem dX0_wordFor_34 : decode cX0_wordFor 34 = .ok (.irem, 1) := by decide +kernel
theorem dX0_wordFor_35 : decode cX0_wordFor 35 = .ok (.ireturn, 1) := by decide +kernel
theorem dX0_wordFor_36 : decode cX0_wordFor 36 = .ok (.iload_n 3, 1) := by decide +kernel
theorem dX0_wordFor_37 : decode cX0_wordFor 37 = .ok (.iconst 1, 1) := by decide +kernel
theorem dX0_wordFor_38 : decode cX0_wordFor 38 = .ok (.if_icmp .ne 8, 3) := by decide +kernel
theorem dX0_wordFor_41 : decode cX0_wordFor 41 = .ok (.bipush (-9), 2) := by decide +kernel
theorem dX0_wordFor_43 : decode cX0_wordFor 43 = .ok (.goto 8, 3) := by decide +kernel
theorem dX0_wordFor_46 : decode cX0_wordFor 46 = .ok (.aload_n 0, 1) := by decide +kernel
theorem dX0_wordFor_47 : decode cX0_wordFor 47 = .ok (.iload_n 2, 1) := by decide +kernel
theorem dX0_wordFor_48 : decode cX0_wordFor 48 = .ok (.invokevirtual 100, 3) := by decide +kernel
theorem dX0_wordFor_51 : decode cX0_wordFor 51 = .ok (.istore 4, 2) := by decide +kernel
theorem dX0_wordFor_53 : decode cX0_wordFor 53 = .ok (.iload 4, 2) := by decide +kernel
theorem dX0_wordFor_55 : decode cX0_wordFor 55 = .ok (.bipush (-9), 2) := by decide +kernel
theorem dX0_wordFor_57 : decode cX0_wordFor 57 = .ok (.if_icmp .ne 7, 3) := by decide +kernel
theorem dX0_wordFor_60 : decode cX0_wordFor 60 = .ok (.iload_n 2, 1) := by decide +kernel
theorem dX0_wordFor_61 : decode cX0_wordFor 61 = .ok (.goto 5, 3) := by decide +kernel
theorem dX0_wordFor_64 : decode cX0_wordFor 64 = .ok (.iload 4, 2) := by decide +kernel
theorem dX0_wordFor_66 : decode cX0_wordFor 66 = .ok (.ireturn, 1) := by decide +kernel
theorem dX0_passDays_0 : decode cX0_passDays 0 = .ok (.iconst 0, 1) := by decide +kernel
theorem dX0_passDays_1 : decode cX0_passDays 1 = .ok (.istore_n 3, 1) := by decide +kernel
theorem dX0_passDays_2 : decode cX0_passDays 2 = .ok (.iload_n 3, 1) := by decide +kernel
theorem dX0_passDays_3 : decode cX0_passDays 3 = .ok (.iload_n 1, 1) := by decide +kernel
theorem dX0_passDays_4 : decode cX0_passDays 4 = .ok (.if_icmp .ge 14, 3) := by decide +kernel
theorem dX0_passDays_7 : decode cX0_passDays 7 = .ok (.aload_n 0, 1) := by decide +kernel
theorem dX0_passDays_8 : decode cX0_passDays 8 = .ok (.iload_n 2, 1) := by decide +kernel
theorem dX0_passDays_9 : decode cX0_passDays 9 = .ok (.invokevirtual 103, 3) := by decide +kernel
theorem dX0_passDays_12 : decode cX0_passDays 12 = .ok (.iinc 3 1, 3) := by decide +kernel
theorem dX0_passDays_15 : decode cX0_passDays 15 = .ok (.goto (-13), 3) := by decide +kernel
theorem dX0_passDays_18 : decode cX0_passDays 18 = .ok (.return_, 1) := by decide +kernel
theorem dX0_passDay_0 : decode cX0_passDay 0 = .ok (.iconst 0, 1) := by decide +kernel
theorem dX0_passDay_1 : decode cX0_passDay 1 = .ok (.istore_n 2, 1) := by decide +kernel
theorem dX0_passDay_2 : decode cX0_passDay 2 = .ok (.iconst 0, 1) := by decide +kernel
theorem dX0_passDay_3 : decode cX0_passDay 3 = .ok (.istore_n 3, 1) := by decide +kernel
theorem dX0_passDay_4 : decode cX0_passDay 4 = .ok (.iconst 0, 1) := by decide +kernel
theorem dX0_passDay_5 : decode cX0_passDay 5 = .ok (.istore 4, 2) := by decide +kernel
theorem dX0_passDay_7 : decode cX0_passDay 7 = .ok (.iload 4, 2) := by decide +kernel
theorem dX0_passDay_9 : decode cX0_passDay 9 = .ok (.aload_n 0, 1) := by decide +kernel
theorem dX0_passDay_10 : decode cX0_passDay 10 = .ok (.getfield 9, 3) := by decide +kernel
theorem dX0_passDay_13 : decode cX0_passDay 13 = .ok (.if_icmp .ge 68, 3) := by decide +kernel
theorem dX0_passDay_16 : decode cX0_passDay 16 = .ok (.aload_n 0, 1) := by decide +kernel
theorem dX0_passDay_17 : decode cX0_passDay 17 = .ok (.getfield 31, 3) := by decide +kernel
theorem dX0_passDay_20 : decode cX0_passDay 20 = .ok (.iload 4, 2) := by decide +kernel
theorem dX0_passDay_22 : decode cX0_passDay 22 = .ok (.invokestatic 73, 3) := by decide +kernel
theorem dX0_passDay_25 : decode cX0_passDay 25 = .ok (.istore 5, 2) := by decide +kernel
theorem dX0_passDay_27 : decode cX0_passDay 27 = .ok (.iload_n 1, 1) := by decide +kernel
theorem dX0_passDay_28 : decode cX0_passDay 28 = .ok (.iload 5, 2) := by decide +kernel
theorem dX0_passDay_30 : decode cX0_passDay 30 = .ok (.ishr, 1) := by decide +kernel
theorem dX0_passDay_31 : decode cX0_passDay 31 = .ok (.iconst 1, 1) := by decide +kernel
theorem dX0_passDay_32 : decode cX0_passDay 32 = .ok (.iand, 1) := by decide +kernel
theorem dX0_passDay_33 : decode cX0_passDay 33 = .ok (.ifCond .eq 42, 3) := by decide +kernel
theorem dX0_passDay_36 : decode cX0_passDay 36 = .ok (.aload_n 0, 1) := by decide +kernel
theorem dX0_passDay_37 : decode cX0_passDay 37 = .ok (.iload 5, 2) := by decide +kernel
theorem dX0_passDay_39 : decode cX0_passDay 39 = .ok (.invokevirtual 107, 3) := by decide +kernel
theorem dX0_passDay_42 : decode cX0_passDay 42 = .ok (.istore 6, 2) := by decide +kernel
theorem dX0_passDay_44 : decode cX0_passDay 44 = .ok (.aload_n 0, 1) := by decide +kernel
theorem dX0_passDay_45 : decode cX0_passDay 45 = .ok (.getfield 28, 3) := by decide +kernel
theorem dX0_passDay_48 : decode cX0_passDay 48 = .ok (.iload 5, 2) := by decide +kernel
theorem dX0_passDay_50 : decode cX0_passDay 50 = .ok (.invokestatic 73, 3) := by decide +kernel
theorem dX0_passDay_53 : decode cX0_passDay 53 = .ok (.bipush 7, 2) := by decide +kernel
theorem dX0_passDay_55 : decode cX0_passDay 55 = .ok (.if_icmp .ne 20, 3) := by decide +kernel
theorem dX0_passDay_58 : decode cX0_passDay 58 = .ok (.iconst 1, 1) := by decide +kernel
theorem dX0_passDay_59 : decode cX0_passDay 59 = .ok (.istore_n 2, 1) := by decide +kernel
theorem dX0_passDay_60 : decode cX0_passDay 60 = .ok (.iload_n 3, 1) := by decide +kernel
theorem dX0_passDay_61 : decode cX0_passDay 61 = .ok (.ifCond .ne 8, 3) := by decide +kernel
theorem dX0_passDay_64 : decode cX0_passDay 64 = .ok (.iload 6, 2) := by decide +kernel
theorem dX0_passDay_66 : decode cX0_passDay 66 = .ok (.ifCond .eq 7, 3) := by decide +kernel
theorem dX0_passDay_69 : decode cX0_passDay 69 = .ok (.iconst 1, 1) := by decide +kernel
theorem dX0_passDay_70 : decode cX0_passDay 70 = .ok (.goto 4, 3) := by decide +kernel
theorem dX0_passDay_73 : decode cX0_passDay 73 = .ok (.iconst 0, 1) := by decide +kernel
theorem dX0_passDay_74 : decode cX0_passDay 74 = .ok (.istore_n 3, 1) := by decide +kernel
theorem dX0_passDay_75 : decode cX0_passDay 75 = .ok (.iinc 4 1, 3) := by decide +kernel
theorem dX0_passDay_78 : decode cX0_passDay 78 = .ok (.goto (-71), 3) := by decide +kernel
theorem dX0_passDay_81 : decode cX0_passDay 81 = .ok (.aload_n 0, 1) := by decide +kernel
theorem dX0_passDay_82 : decode cX0_passDay 82 = .ok (.iload_n 2, 1) := by decide +kernel
theorem dX0_passDay_83 : decode cX0_passDay 83 = .ok (.iload_n 3, 1) := by decide +kernel
theorem dX0_passDay_84 : decode cX0_passDay 84 = .ok (.invokevirtual 110, 3) := by decide +kernel
theorem dX0_passDay_87 : decode cX0_passDay 87 = .ok (.return_, 1) := by decide +kernel
theorem dX0_hearCall_0 : decode cX0_hearCall 0 = .ok (.aload_n 0, 1) := by decide +kernel
theorem dX0_hearCall_1 : decode cX0_hearCall 1 = .ok (.getfield 15, 3) := by decide +kernel
theorem dX0_hearCall_4 : decode cX0_hearCall 4 = .ok (.iload_n 1, 1) := by decide +kernel
theorem dX0_hearCall_5 : decode cX0_hearCall 5 = .ok (.invokestatic 73, 3) := by decide +kernel
theorem dX0_hearCall_8 : decode cX0_hearCall 8 = .ok (.istore_n 2, 1) := by decide +kernel
theorem dX0_hearCall_9 : decode cX0_hearCall 9 = .ok (.aload_n 0, 1) := by decide +kernel
theorem dX0_hearCall_10 : decode cX0_hearCall 10 = .ok (.iload_n 1, 1) := by decide +kernel
theorem dX0_hearCall_11 : decode cX0_hearCall 11 = .ok (.invokevirtual 90, 3) := by decide +kernel
theorem dX0_hearCall_14 : decode cX0_hearCall 14 = .ok (.istore_n 3, 1) := by decide +kernel
theorem dX0_hearCall_15 : decode cX0_hearCall 15 = .ok (.iload_n 3, 1) := by decide +kernel
theorem dX0_hearCall_16 : decode cX0_hearCall 16 = .ok (.ifCond .eq 60, 3) := by decide +kernel
theorem dX0_hearCall_19 : decode cX0_hearCall 19 = .ok (.aload_n 0, 1) := by decide +kernel
theorem dX0_hearCall_20 : decode cX0_hearCall 20 = .ok (.getfield 52, 3) := by decide +kernel
theorem dX0_hearCall_23 : decode cX0_hearCall 23 = .ok (.iload_n 1, 1) := by decide +kernel
theorem dX0_hearCall_24 : decode cX0_hearCall 24 = .ok (.aload_n 0, 1) := by decide +kernel
theorem dX0_hearCall_25 : decode cX0_hearCall 25 = .ok (.iload_n 1, 1) := by decide +kernel
theorem dX0_hearCall_26 : decode cX0_hearCall 26 = .ok (.invokevirtual 94, 3) := by decide +kernel
theorem dX0_hearCall_29 : decode cX0_hearCall 29 = .ok (.invokevirtual 114, 3) := by decide +kernel
theorem dX0_hearCall_32 : decode cX0_hearCall 32 = .ok (.aload_n 0, 1) := by decide +kernel
theorem dX0_hearCall_33 : decode cX0_hearCall 33 = .ok (.getfield 25, 3) := by decide +kernel
theorem dX0_hearCall_36 : decode cX0_hearCall 36 = .ok (.iload_n 1, 1) := by decide +kernel
theorem dX0_hearCall_37 : decode cX0_hearCall 37 = .ok (.invokestatic 73, 3) := by decide +kernel
theorem dX0_hearCall_40 : decode cX0_hearCall 40 = .ok (.istore 4, 2) := by decide +kernel
theorem dX0_hearCall_42 : decode cX0_hearCall 42 = .ok (.aload_n 0, 1) := by decide +kernel
theorem dX0_hearCall_43 : decode cX0_hearCall 43 = .ok (.getfield 34, 3) := by decide +kernel
theorem dX0_hearCall_46 : decode cX0_hearCall 46 = .ok (.iload 4, 2) := by decide +kernel
theorem dX0_hearCall_48 : decode cX0_hearCall 48 = .ok (.bipush 20, 2) := by decide +kernel
theorem dX0_hearCall_50 : decode cX0_hearCall 50 = .ok (.aload_n 0, 1) := by decide +kernel
theorem dX0_hearCall_51 : decode cX0_hearCall 51 = .ok (.getfield 34, 3) := by decide +kernel
theorem dX0_hearCall_54 : decode cX0_hearCall 54 = .ok (.iload 4, 2) := by decide +kernel
theorem dX0_hearCall_56 : decode cX0_hearCall 56 = .ok (.invokestatic 73, 3) := by decide +kernel
theorem dX0_hearCall_59 : decode cX0_hearCall 59 = .ok (.getstatic 118, 3) := by decide +kernel
theorem dX0_hearCall_62 : decode cX0_hearCall 62 = .ok (.iload_n 2, 1) := by decide +kernel
theorem dX0_hearCall_63 : decode cX0_hearCall 63 = .ok (.invokestatic 73, 3) := by decide +kernel
theorem dX0_hearCall_66 : decode cX0_hearCall 66 = .ok (.iadd, 1) := by decide +kernel
theorem dX0_hearCall_67 : decode cX0_hearCall 67 = .ok (.invokestatic 121, 3) := by decide +kernel
theorem dX0_hearCall_70 : decode cX0_hearCall 70 = .ok (.invokestatic 60, 3) := by decide +kernel
theorem dX0_hearCall_73 : decode cX0_hearCall 73 = .ok (.goto 44, 3) := by decide +kernel
theorem dX0_hearCall_76 : decode cX0_hearCall 76 = .ok (.aload_n 0, 1) := by decide +kernel
theorem dX0_hearCall_77 : decode cX0_hearCall 77 = .ok (.getfield 52, 3) := by decide +kernel
theorem dX0_hearCall_80 : decode cX0_hearCall 80 = .ok (.dup, 1) := by decide +kernel
theorem dX0_hearCall_81 : decode cX0_hearCall 81 = .ok (.getfield 125, 3) := by decide +kernel
theorem dX0_hearCall_84 : decode cX0_hearCall 84 = .ok (.iconst 1, 1) := by decide +kernel
theorem dX0_hearCall_85 : decode cX0_hearCall 85 = .ok (.iadd, 1) := by decide +kernel
theorem dX0_hearCall_86 : decode cX0_hearCall 86 = .ok (.putfield 125, 3) := by decide +kernel
theorem dX0_hearCall_89 : decode cX0_hearCall 89 = .ok (.aload_n 0, 1) := by decide +kernel
theorem dX0_hearCall_90 : decode cX0_hearCall 90 = .ok (.getstatic 128, 3) := by decide +kernel
theorem dX0_hearCall_93 : decode cX0_hearCall 93 = .ok (.iload_n 2, 1) := by decide +kernel
theorem dX0_hearCall_94 : decode cX0_hearCall 94 = .ok (.invokestatic 73, 3) := by decide +kernel
theorem dX0_hearCall_97 : decode cX0_hearCall 97 = .ok (.getstatic 131, 3) := by decide +kernel
theorem dX0_hearCall_100 : decode cX0_hearCall 100 = .ok (.iload_n 2, 1) := by decide +kernel
theorem dX0_hearCall_101 : decode cX0_hearCall 101 = .ok (.invokestatic 73, 3) := by decide +kernel
theorem dX0_hearCall_104 : decode cX0_hearCall 104 = .ok (.aload_n 0, 1) := by decide +kernel
theorem dX0_hearCall_105 : decode cX0_hearCall 105 = .ok (.getfield 19, 3) := by decide +kernel
theorem dX0_hearCall_108 : decode cX0_hearCall 108 = .ok (.iload_n 1, 1) := by decide +kernel
theorem dX0_hearCall_109 : decode cX0_hearCall 109 = .ok (.invokestatic 73, 3) := by decide +kernel
theorem dX0_hearCall_112 : decode cX0_hearCall 112 = .ok (.imul, 1) := by decide +kernel
theorem dX0_hearCall_113 : decode cX0_hearCall 113 = .ok (.iadd, 1) := by decide +kernel
theorem dX0_hearCall_114 : decode cX0_hearCall 114 = .ok (.invokevirtual 134, 3) := by decide +kernel
theorem dX0_hearCall_117 : decode cX0_hearCall 117 = .ok (.iload_n 3, 1) := by decide +kernel
theorem dX0_hearCall_118 : decode cX0_hearCall 118 = .ok (.ireturn, 1) := by decide +kernel
theorem dX0_endDay_0 : decode cX0_endDay 0 = .ok (.iload_n 1, 1) := by decide +kernel
theorem dX0_endDay_1 : decode cX0_endDay 1 = .ok (.ifCond .ne 8, 3) := by decide +kernel
theorem dX0_endDay_4 : decode cX0_endDay 4 = .ok (.aload_n 0, 1) := by decide +kernel
theorem dX0_endDay_5 : decode cX0_endDay 5 = .ok (.iconst 1, 1) := by decide +kernel
theorem dX0_endDay_6 : decode cX0_endDay 6 = .ok (.invokevirtual 134, 3) := by decide +kernel
theorem dX0_endDay_9 : decode cX0_endDay 9 = .ok (.iload_n 2, 1) := by decide +kernel
theorem dX0_endDay_10 : decode cX0_endDay 10 = .ok (.ifCond .eq 8, 3) := by decide +kernel
theorem dX0_endDay_13 : decode cX0_endDay 13 = .ok (.aload_n 0, 1) := by decide +kernel
theorem dX0_endDay_14 : decode cX0_endDay 14 = .ok (.iconst (-1), 1) := by decide +kernel
theorem dX0_endDay_15 : decode cX0_endDay 15 = .ok (.invokevirtual 134, 3) := by decide +kernel
theorem dX0_endDay_18 : decode cX0_endDay 18 = .ok (.aload_n 0, 1) := by decide +kernel
theorem dX0_endDay_19 : decode cX0_endDay 19 = .ok (.getfield 40, 3) := by decide +kernel
theorem dX0_endDay_22 : decode cX0_endDay 22 = .ok (.bipush 10, 2) := by decide +kernel
theorem dX0_endDay_24 : decode cX0_endDay 24 = .ok (.if_icmp .lt 12, 3) := by decide +kernel
theorem dX0_endDay_27 : decode cX0_endDay 27 = .ok (.aload_n 0, 1) := by decide +kernel
theorem dX0_endDay_28 : decode cX0_endDay 28 = .ok (.bipush (-9), 2) := by decide +kernel
theorem dX0_endDay_30 : decode cX0_endDay 30 = .ok (.invokevirtual 100, 3) := by decide +kernel
theorem dX0_endDay_33 : decode cX0_endDay 33 = .ok (.goto 5, 3) := by decide +kernel
theorem dX0_endDay_36 : decode cX0_endDay 36 = .ok (.bipush (-9), 2) := by decide +kernel
theorem dX0_endDay_38 : decode cX0_endDay 38 = .ok (.istore_n 3, 1) := by decide +kernel
theorem dX0_endDay_39 : decode cX0_endDay 39 = .ok (.iload_n 3, 1) := by decide +kernel
theorem dX0_endDay_40 : decode cX0_endDay 40 = .ok (.bipush (-9), 2) := by decide +kernel
theorem dX0_endDay_42 : decode cX0_endDay 42 = .ok (.if_icmp .eq 21, 3) := by decide +kernel
theorem dX0_endDay_45 : decode cX0_endDay 45 = .ok (.aload_n 0, 1) := by decide +kernel
theorem dX0_endDay_46 : decode cX0_endDay 46 = .ok (.getfield 34, 3) := by decide +kernel
theorem dX0_endDay_49 : decode cX0_endDay 49 = .ok (.iload_n 3, 1) := by decide +kernel
theorem dX0_endDay_50 : decode cX0_endDay 50 = .ok (.aload_n 0, 1) := by decide +kernel
theorem dX0_endDay_51 : decode cX0_endDay 51 = .ok (.getfield 34, 3) := by decide +kernel
theorem dX0_endDay_54 : decode cX0_endDay 54 = .ok (.iload_n 3, 1) := by decide +kernel
theorem dX0_endDay_55 : decode cX0_endDay 55 = .ok (.invokestatic 73, 3) := by decide +kernel
theorem dX0_endDay_58 : decode cX0_endDay 58 = .ok (.iconst 1, 1) := by decide +kernel
theorem dX0_endDay_59 : decode cX0_endDay 59 = .ok (.isub, 1) := by decide +kernel
theorem dX0_endDay_60 : decode cX0_endDay 60 = .ok (.invokestatic 60, 3) := by decide +kernel
theorem dX0_endDay_63 : decode cX0_endDay 63 = .ok (.aload_n 0, 1) := by decide +kernel
theorem dX0_endDay_64 : decode cX0_endDay 64 = .ok (.dup, 1) := by decide +kernel
theorem dX0_endDay_65 : decode cX0_endDay 65 = .ok (.getfield 46, 3) := by decide +kernel
theorem dX0_endDay_68 : decode cX0_endDay 68 = .ok (.iconst 1, 1) := by decide +kernel
theorem dX0_endDay_69 : decode cX0_endDay 69 = .ok (.iadd, 1) := by decide +kernel
theorem dX0_endDay_70 : decode cX0_endDay 70 = .ok (.putfield 46, 3) := by decide +kernel
theorem dX0_endDay_73 : decode cX0_endDay 73 = .ok (.return_, 1) := by decide +kernel
theorem dX0_hurtBy_0 : decode cX0_hurtBy 0 = .ok (.aload_n 0, 1) := by decide +kernel
theorem dX0_hurtBy_1 : decode cX0_hurtBy 1 = .ok (.iconst 0, 1) := by decide +kernel
theorem dX0_hurtBy_2 : decode cX0_hurtBy 2 = .ok (.bipush 99, 2) := by decide +kernel
theorem dX0_hurtBy_4 : decode cX0_hurtBy 4 = .ok (.aload_n 0, 1) := by decide +kernel
theorem dX0_hurtBy_5 : decode cX0_hurtBy 5 = .ok (.getfield 40, 3) := by decide +kernel
theorem dX0_hurtBy_8 : decode cX0_hurtBy 8 = .ok (.iload_n 1, 1) := by decide +kernel
theorem dX0_hurtBy_9 : decode cX0_hurtBy 9 = .ok (.iadd, 1) := by decide +kernel
theorem dX0_hurtBy_10 : decode cX0_hurtBy 10 = .ok (.invokestatic 121, 3) := by decide +kernel
theorem dX0_hurtBy_13 : decode cX0_hurtBy 13 = .ok (.invokestatic 137, 3) := by decide +kernel
theorem dX0_hurtBy_16 : decode cX0_hurtBy 16 = .ok (.putfield 40, 3) := by decide +kernel
theorem dX0_hurtBy_19 : decode cX0_hurtBy 19 = .ok (.return_, 1) := by decide +kernel
theorem dX1_init_0 : decode cX1_init 0 = .ok (.aload_n 0, 1) := by decide +kernel
theorem dX1_init_1 : decode cX1_init 1 = .ok (.invokespecial 3, 3) := by decide +kernel
theorem dX1_init_4 : decode cX1_init 4 = .ok (.aload_n 0, 1) := by decide +kernel
theorem dX1_init_5 : decode cX1_init 5 = .ok (.iconst 0, 1) := by decide +kernel
theorem dX1_init_6 : decode cX1_init 6 = .ok (.putfield 9, 3) := by decide +kernel
theorem dX1_init_9 : decode cX1_init 9 = .ok (.aload_n 0, 1) := by decide +kernel
theorem dX1_init_10 : decode cX1_init 10 = .ok (.iconst 0, 1) := by decide +kernel
theorem dX1_init_11 : decode cX1_init 11 = .ok (.putfield 15, 3) := by decide +kernel
theorem dX1_init_14 : decode cX1_init 14 = .ok (.aload_n 0, 1) := by decide +kernel
theorem dX1_init_15 : decode cX1_init 15 = .ok (.iconst 0, 1) := by decide +kernel
theorem dX1_init_16 : decode cX1_init 16 = .ok (.putfield 18, 3) := by decide +kernel
theorem dX1_init_19 : decode cX1_init 19 = .ok (.aload_n 0, 1) := by decide +kernel
theorem dX1_init_20 : decode cX1_init 20 = .ok (.bipush 7, 2) := by decide +kernel
theorem dX1_init_22 : decode cX1_init 22 = .ok (.newarray .int, 2) := by decide +kernel
theorem dX1_init_24 : decode cX1_init 24 = .ok (.putfield 21, 3) := by decide +kernel
theorem dX1_init_27 : decode cX1_init 27 = .ok (.aload_n 0, 1) := by decide +kernel
theorem dX1_init_28 : decode cX1_init 28 = .ok (.bipush 7, 2) := by decide +kernel
theorem dX1_init_30 : decode cX1_init 30 = .ok (.newarray .int, 2) := by decide +kernel
theorem dX1_init_32 : decode cX1_init 32 = .ok (.putfield 25, 3) := by decide +kernel
theorem dX1_init_35 : decode cX1_init 35 = .ok (.return_, 1) := by decide +kernel
theorem dX1_forget_0 : decode cX1_forget 0 = .ok (.aload_n 0, 1) := by decide +kernel
theorem dX1_forget_1 : decode cX1_forget 1 = .ok (.iconst 0, 1) := by decide +kernel
theorem dX1_forget_2 : decode cX1_forget 2 = .ok (.putfield 9, 3) := by decide +kernel
theorem dX1_forget_5 : decode cX1_forget 5 = .ok (.aload_n 0, 1) := by decide +kernel
theorem dX1_forget_6 : decode cX1_forget 6 = .ok (.iconst 0, 1) := by decide +kernel
theorem dX1_forget_7 : decode cX1_forget 7 = .ok (.putfield 15, 3) := by decide +kernel
theorem dX1_forget_10 : decode cX1_forget 10 = .ok (.aload_n 0, 1) := by decide +kernel
theorem dX1_forget_11 : decode cX1_forget 11 = .ok (.iconst 0, 1) := by decide +kernel
theorem dX1_forget_12 : decode cX1_forget 12 = .ok (.putfield 18, 3) := by decide +kernel
theorem dX1_forget_15 : decode cX1_forget 15 = .ok (.aload_n 0, 1) := by decide +kernel
theorem dX1_forget_16 : decode cX1_forget 16 = .ok (.getfield 21, 3) := by decide +kernel
theorem dX1_forget_19 : decode cX1_forget 19 = .ok (.iconst 0, 1) := by decide +kernel
theorem dX1_forget_20 : decode cX1_forget 20 = .ok (.invokestatic 28, 3) := by decide +kernel
theorem dX1_forget_23 : decode cX1_forget 23 = .ok (.aload_n 0, 1) := by decide +kernel
theorem dX1_forget_24 : decode cX1_forget 24 = .ok (.getfield 25, 3) := by decide +kernel
theorem dX1_forget_27 : decode cX1_forget 27 = .ok (.bipush (-9), 2) := by decide +kernel
theorem dX1_forget_29 : decode cX1_forget 29 = .ok (.invokestatic 28, 3) := by decide +kernel
theorem dX1_forget_32 : decode cX1_forget 32 = .ok (.return_, 1) := by decide +kernel
theorem dX1_noteAnswer_0 : decode cX1_noteAnswer 0 = .ok (.aload_n 0, 1) := by decide +kernel
theorem dX1_noteAnswer_1 : decode cX1_noteAnswer 1 = .ok (.dup, 1) := by decide +kernel
theorem dX1_noteAnswer_2 : decode cX1_noteAnswer 2 = .ok (.getfield 9, 3) := by decide +kernel
theorem dX1_noteAnswer_5 : decode cX1_noteAnswer 5 = .ok (.iconst 1, 1) := by decide +kernel
theorem dX1_noteAnswer_6 : decode cX1_noteAnswer 6 = .ok (.iadd, 1) := by decide +kernel
theorem dX1_noteAnswer_7 : decode cX1_noteAnswer 7 = .ok (.putfield 9, 3) := by decide +kernel
theorem dX1_noteAnswer_10 : decode cX1_noteAnswer 10 = .ok (.aload_n 0, 1) := by decide +kernel
theorem dX1_noteAnswer_11 : decode cX1_noteAnswer 11 = .ok (.dup, 1) := by decide +kernel
theorem dX1_noteAnswer_12 : decode cX1_noteAnswer 12 = .ok (.getfield 18, 3) := by decide +kernel
theorem dX1_noteAnswer_15 : decode cX1_noteAnswer 15 = .ok (.iconst 1, 1) := by decide +kernel
theorem dX1_noteAnswer_16 : decode cX1_noteAnswer 16 = .ok (.iload_n 2, 1) := by decide +kernel
theorem dX1_noteAnswer_17 : decode cX1_noteAnswer 17 = .ok (.ishl, 1) := by decide +kernel
theorem dX1_noteAnswer_18 : decode cX1_noteAnswer 18 = .ok (.ior, 1) := by decide +kernel
theorem dX1_noteAnswer_19 : decode cX1_noteAnswer 19 = .ok (.putfield 18, 3) := by decide +kernel
theorem dX1_noteAnswer_22 : decode cX1_noteAnswer 22 = .ok (.aload_n 0, 1) := by decide +kernel
theorem dX1_noteAnswer_23 : decode cX1_noteAnswer 23 = .ok (.getfield 21, 3) := by decide +kernel
theorem dX1_noteAnswer_26 : decode cX1_noteAnswer 26 = .ok (.iload_n 1, 1) := by decide +kernel
theorem dX1_noteAnswer_27 : decode cX1_noteAnswer 27 = .ok (.aload_n 0, 1) := by decide +kernel
theorem dX1_noteAnswer_28 : decode cX1_noteAnswer 28 = .ok (.getfield 21, 3) := by decide +kernel
theorem dX1_noteAnswer_31 : decode cX1_noteAnswer 31 = .ok (.iload_n 1, 1) := by decide +kernel
theorem dX1_noteAnswer_32 : decode cX1_noteAnswer 32 = .ok (.invokestatic 34, 3) := by decide +kernel
theorem dX1_noteAnswer_35 : decode cX1_noteAnswer 35 = .ok (.iconst 1, 1) := by decide +kernel
theorem dX1_noteAnswer_36 : decode cX1_noteAnswer 36 = .ok (.iadd, 1) := by decide +kernel
theorem dX1_noteAnswer_37 : decode cX1_noteAnswer 37 = .ok (.invokestatic 38, 3) := by decide +kernel
theorem dX1_noteAnswer_40 : decode cX1_noteAnswer 40 = .ok (.aload_n 0, 1) := by decide +kernel
theorem dX1_noteAnswer_41 : decode cX1_noteAnswer 41 = .ok (.getfield 25, 3) := by decide +kernel
theorem dX1_noteAnswer_44 : decode cX1_noteAnswer 44 = .ok (.iload_n 1, 1) := by decide +kernel
theorem dX1_noteAnswer_45 : decode cX1_noteAnswer 45 = .ok (.iload_n 2, 1) := by decide +kernel
theorem dX1_noteAnswer_46 : decode cX1_noteAnswer 46 = .ok (.invokestatic 38, 3) := by decide +kernel
theorem dX1_noteAnswer_49 : decode cX1_noteAnswer 49 = .ok (.return_, 1) := by decide +kernel
theorem dX2_init_0 : decode cX2_init 0 = .ok (.aload_n 0, 1) := by decide +kernel
theorem dX2_init_1 : decode cX2_init 1 = .ok (.invokespecial 3, 3) := by decide +kernel
theorem dX2_init_4 : decode cX2_init 4 = .ok (.aload_n 0, 1) := by decide +kernel
theorem dX2_init_5 : decode cX2_init 5 = .ok (.bipush 96, 2) := by decide +kernel
theorem dX2_init_7 : decode cX2_init 7 = .ok (.newarray .int, 2) := by decide +kernel
theorem dX2_init_9 : decode cX2_init 9 = .ok (.putfield 9, 3) := by decide +kernel
theorem dX2_init_12 : decode cX2_init 12 = .ok (.aload_n 0, 1) := by decide +kernel
theorem dX2_init_13 : decode cX2_init 13 = .ok (.iconst 0, 1) := by decide +kernel
theorem dX2_init_14 : decode cX2_init 14 = .ok (.putfield 15, 3) := by decide +kernel
theorem dX2_init_17 : decode cX2_init 17 = .ok (.return_, 1) := by decide +kernel
theorem dX2_add_0 : decode cX2_add 0 = .ok (.aload_n 0, 1) := by decide +kernel
theorem dX2_add_1 : decode cX2_add 1 = .ok (.getfield 15, 3) := by decide +kernel
theorem dX2_add_4 : decode cX2_add 4 = .ok (.bipush 96, 2) := by decide +kernel
theorem dX2_add_6 : decode cX2_add 6 = .ok (.if_icmp .ge 25, 3) := by decide +kernel
theorem dX2_add_9 : decode cX2_add 9 = .ok (.aload_n 0, 1) := by decide +kernel
theorem dX2_add_10 : decode cX2_add 10 = .ok (.getfield 9, 3) := by decide +kernel
theorem dX2_add_13 : decode cX2_add 13 = .ok (.aload_n 0, 1) := by decide +kernel
theorem dX2_add_14 : decode cX2_add 14 = .ok (.getfield 15, 3) := by decide +kernel
theorem dX2_add_17 : decode cX2_add 17 = .ok (.iload_n 1, 1) := by decide +kernel
theorem dX2_add_18 : decode cX2_add 18 = .ok (.invokestatic 19, 3) := by decide +kernel
theorem dX2_add_21 : decode cX2_add 21 = .ok (.aload_n 0, 1) := by decide +kernel
theorem dX2_add_22 : decode cX2_add 22 = .ok (.dup, 1) := by decide +kernel
theorem dX2_add_23 : decode cX2_add 23 = .ok (.getfield 15, 3) := by decide +kernel
theorem dX2_add_26 : decode cX2_add 26 = .ok (.iconst 1, 1) := by decide +kernel
theorem dX2_add_27 : decode cX2_add 27 = .ok (.iadd, 1) := by decide +kernel
theorem dX2_add_28 : decode cX2_add 28 = .ok (.putfield 15, 3) := by decide +kernel
theorem dX2_add_31 : decode cX2_add 31 = .ok (.return_, 1) := by decide +kernel
theorem dX2_letterAt_0 : decode cX2_letterAt 0 = .ok (.iload_n 1, 1) := by decide +kernel
theorem dX2_letterAt_1 : decode cX2_letterAt 1 = .ok (.aload_n 0, 1) := by decide +kernel
theorem dX2_letterAt_2 : decode cX2_letterAt 2 = .ok (.getfield 15, 3) := by decide +kernel
theorem dX2_letterAt_5 : decode cX2_letterAt 5 = .ok (.if_icmp .ge 14, 3) := by decide +kernel
theorem dX2_letterAt_8 : decode cX2_letterAt 8 = .ok (.aload_n 0, 1) := by decide +kernel
theorem dX2_letterAt_9 : decode cX2_letterAt 9 = .ok (.getfield 9, 3) := by decide +kernel
theorem dX2_letterAt_12 : decode cX2_letterAt 12 = .ok (.iload_n 1, 1) := by decide +kernel
theorem dX2_letterAt_13 : decode cX2_letterAt 13 = .ok (.invokestatic 23, 3) := by decide +kernel
theorem dX2_letterAt_16 : decode cX2_letterAt 16 = .ok (.goto 4, 3) := by decide +kernel
theorem dX2_letterAt_19 : decode cX2_letterAt 19 = .ok (.iconst (-1), 1) := by decide +kernel
theorem dX2_letterAt_20 : decode cX2_letterAt 20 = .ok (.ireturn, 1) := by decide +kernel
theorem dX2_digitAt_0 : decode cX2_digitAt 0 = .ok (.aload_n 0, 1) := by decide +kernel
theorem dX2_digitAt_1 : decode cX2_digitAt 1 = .ok (.iload_n 1, 1) := by decide +kernel
theorem dX2_digitAt_2 : decode cX2_digitAt 2 = .ok (.invokevirtual 27, 3) := by decide +kernel
theorem dX2_digitAt_5 : decode cX2_digitAt 5 = .ok (.bipush 48, 2) := by decide +kernel
theorem dX2_digitAt_7 : decode cX2_digitAt 7 = .ok (.isub, 1) := by decide +kernel
theorem dX2_digitAt_8 : decode cX2_digitAt 8 = .ok (.ireturn, 1) := by decide +kernel
theorem dX2_numberAt_0 : decode cX2_numberAt 0 = .ok (.bipush 10, 2) := by decide +kernel
theorem dX2_numberAt_2 : decode cX2_numberAt 2 = .ok (.aload_n 0, 1) := by decide +kernel
theorem dX2_numberAt_3 : decode cX2_numberAt 3 = .ok (.iload_n 1, 1) := by decide +kernel
theorem dX2_numberAt_4 : decode cX2_numberAt 4 = .ok (.invokevirtual 31, 3) := by decide +kernel
theorem dX2_numberAt_7 : decode cX2_numberAt 7 = .ok (.imul, 1) := by decide +kernel
theorem dX2_numberAt_8 : decode cX2_numberAt 8 = .ok (.aload_n 0, 1) := by decide +kernel
theorem dX2_numberAt_9 : decode cX2_numberAt 9 = .ok (.iload_n 1, 1) := by decide +kernel
theorem dX2_numberAt_10 : decode cX2_numberAt 10 = .ok (.iconst 1, 1) := by decide +kernel
theorem dX2_numberAt_11 : decode cX2_numberAt 11 = .ok (.iadd, 1) := by decide +kernel
theorem dX2_numberAt_12 : decode cX2_numberAt 12 = .ok (.invokevirtual 31, 3) := by decide +kernel
theorem dX2_numberAt_15 : decode cX2_numberAt 15 = .ok (.iadd, 1) := by decide +kernel
theorem dX2_numberAt_16 : decode cX2_numberAt 16 = .ok (.ireturn, 1) := by decide +kernel
theorem dX2_formOf_0 : decode cX2_formOf 0 = .ok (.iload_n 0, 1) := by decide +kernel
theorem dX2_formOf_1 : decode cX2_formOf 1 = .ok (.tableswitch 112 99 117 #[91, 109, 112, 112, 112, 97, 112, 112, 94, 112, 112, 112, 112, 106, 112, 112, 112, 100, 103], 91) := by decide +kernel
theorem dX2_formOf_92 : decode cX2_formOf 92 = .ok (.ldc 34, 2) := by decide +kernel
theorem dX2_formOf_94 : decode cX2_formOf 94 = .ok (.areturn, 1) := by decide +kernel
theorem dX2_formOf_95 : decode cX2_formOf 95 = .ok (.ldc 36, 2) := by decide +kernel
theorem dX2_formOf_97 : decode cX2_formOf 97 = .ok (.areturn, 1) := by decide +kernel
theorem dX2_formOf_98 : decode cX2_formOf 98 = .ok (.ldc 38, 2) := by decide +kernel
theorem dX2_formOf_100 : decode cX2_formOf 100 = .ok (.areturn, 1) := by decide +kernel
theorem dX2_formOf_101 : decode cX2_formOf 101 = .ok (.ldc 40, 2) := by decide +kernel
theorem dX2_formOf_103 : decode cX2_formOf 103 = .ok (.areturn, 1) := by decide +kernel
theorem dX2_formOf_104 : decode cX2_formOf 104 = .ok (.ldc 42, 2) := by decide +kernel
theorem dX2_formOf_106 : decode cX2_formOf 106 = .ok (.areturn, 1) := by decide +kernel
theorem dX2_formOf_107 : decode cX2_formOf 107 = .ok (.ldc 44, 2) := by decide +kernel
theorem dX2_formOf_109 : decode cX2_formOf 109 = .ok (.areturn, 1) := by decide +kernel
theorem dX2_formOf_110 : decode cX2_formOf 110 = .ok (.ldc 46, 2) := by decide +kernel
theorem dX2_formOf_112 : decode cX2_formOf 112 = .ok (.areturn, 1) := by decide +kernel
theorem dX2_formOf_113 : decode cX2_formOf 113 = .ok (.ldc 48, 2) := by decide +kernel
theorem dX2_formOf_115 : decode cX2_formOf 115 = .ok (.areturn, 1) := by decide +kernel
theorem dX2_isOfForm_0 : decode cX2_isOfForm 0 = .ok (.iload_n 0, 1) := by decide +kernel
theorem dX2_isOfForm_1 : decode cX2_isOfForm 1 = .ok (.bipush 75, 2) := by decide +kernel
theorem dX2_isOfForm_3 : decode cX2_isOfForm 3 = .ok (.if_icmp .ne 16, 3) := by decide +kernel
theorem dX2_isOfForm_6 : decode cX2_isOfForm 6 = .ok (.iload_n 1, 1) := by decide +kernel
theorem dX2_isOfForm_7 : decode cX2_isOfForm 7 = .ok (.invokestatic 50, 3) := by decide +kernel
theorem dX2_isOfForm_10 : decode cX2_isOfForm 10 = .ok (.ifCond .lt 7, 3) := by decide +kernel
theorem dX2_isOfForm_13 : decode cX2_isOfForm 13 = .ok (.iconst 1, 1) := by decide +kernel
theorem dX2_isOfForm_14 : decode cX2_isOfForm 14 = .ok (.goto 4, 3) := by decide +kernel
theorem dX2_isOfForm_17 : decode cX2_isOfForm 17 = .ok (.iconst 0, 1) := by decide +kernel
theorem dX2_isOfForm_18 : decode cX2_isOfForm 18 = .ok (.ireturn, 1) := by decide +kernel
theorem dX2_isOfForm_19 : decode cX2_isOfForm 19 = .ok (.iload_n 0, 1) := by decide +kernel
theorem dX2_isOfForm_20 : decode cX2_isOfForm 20 = .ok (.bipush 35, 2) := by decide +kernel
theorem dX2_isOfForm_22 : decode cX2_isOfForm 22 = .ok (.if_icmp .ne 23, 3) := by decide +kernel
theorem dX2_isOfForm_25 : decode cX2_isOfForm 25 = .ok (.iload_n 1, 1) := by decide +kernel
theorem dX2_isOfForm_26 : decode cX2_isOfForm 26 = .ok (.bipush 48, 2) := by decide +kernel
theorem dX2_isOfForm_28 : decode cX2_isOfForm 28 = .ok (.if_icmp .lt 13, 3) := by decide +kernel
theorem dX2_isOfForm_31 : decode cX2_isOfForm 31 = .ok (.iload_n 1, 1) := by decide +kernel
theorem dX2_isOfForm_32 : decode cX2_isOfForm 32 = .ok (.bipush 57, 2) := by decide +kernel
theorem dX2_isOfForm_34 : decode cX2_isOfForm 34 = .ok (.if_icmp .gt 7, 3) := by decide +kernel
theorem dX2_isOfForm_37 : decode cX2_isOfForm 37 = .ok (.iconst 1, 1) := by decide +kernel
theorem dX2_isOfForm_38 : decode cX2_isOfForm 38 = .ok (.goto 17, 3) := by decide +kernel
theorem dX2_isOfForm_41 : decode cX2_isOfForm 41 = .ok (.iconst 0, 1) := by decide +kernel
theorem dX2_isOfForm_42 : decode cX2_isOfForm 42 = .ok (.goto 13, 3) := by decide +kernel
theorem dX2_isOfForm_45 : decode cX2_isOfForm 45 = .ok (.iload_n 1, 1) := by decide +kernel
theorem dX2_isOfForm_46 : decode cX2_isOfForm 46 = .ok (.iload_n 0, 1) := by decide +kernel
theorem dX2_isOfForm_47 : decode cX2_isOfForm 47 = .ok (.if_icmp .ne 7, 3) := by decide +kernel
theorem dX2_isOfForm_50 : decode cX2_isOfForm 50 = .ok (.iconst 1, 1) := by decide +kernel
theorem dX2_isOfForm_51 : decode cX2_isOfForm 51 = .ok (.goto 4, 3) := by decide +kernel
theorem dX2_isOfForm_54 : decode cX2_isOfForm 54 = .ok (.iconst 0, 1) := by decide +kernel
theorem dX2_isOfForm_55 : decode cX2_isOfForm 55 = .ok (.ireturn, 1) := by decide +kernel
theorem dX2_kindOf_0 : decode cX2_kindOf 0 = .ok (.iload_n 0, 1) := by decide +kernel
theorem dX2_kindOf_1 : decode cX2_kindOf 1 = .ok (.iconst (-1), 1) := by decide +kernel
theorem dX2_kindOf_2 : decode cX2_kindOf 2 = .ok (.if_icmp .ne 7, 3) := by decide +kernel
theorem dX2_kindOf_5 : decode cX2_kindOf 5 = .ok (.iconst (-1), 1) := by decide +kernel
theorem dX2_kindOf_6 : decode cX2_kindOf 6 = .ok (.goto 10, 3) := by decide +kernel
theorem dX2_kindOf_9 : decode cX2_kindOf 9 = .ok (.ldc 53, 2) := by decide +kernel
theorem dX2_kindOf_11 : decode cX2_kindOf 11 = .ok (.iload_n 0, 1) := by decide +kernel
theorem dX2_kindOf_12 : decode cX2_kindOf 12 = .ok (.i2c, 1) := by decide +kernel
theorem dX2_kindOf_13 : decode cX2_kindOf 13 = .ok (.invokevirtual 55, 3) := by decide +kernel
theorem dX2_kindOf_16 : decode cX2_kindOf 16 = .ok (.ireturn, 1) := by decide +kernel
theorem dX2_stepFrom_0 : decode cX2_stepFrom 0 = .ok (.aload_n 0, 1) := by decide +kernel
theorem dX2_stepFrom_1 : decode cX2_stepFrom 1 = .ok (.iload_n 1, 1) := by decide +kernel
theorem dX2_stepFrom_2 : decode cX2_stepFrom 2 = .ok (.invokevirtual 27, 3) := by decide +kernel
theorem dX2_stepFrom_5 : decode cX2_stepFrom 5 = .ok (.invokestatic 60, 3) := by decide +kernel
theorem dX2_stepFrom_8 : decode cX2_stepFrom 8 = .ok (.invokevirtual 64, 3) := by decide +kernel
theorem dX2_stepFrom_11 : decode cX2_stepFrom 11 = .ok (.ireturn, 1) := by decide +kernel
theorem dX2_faultOfForm_0 : decode cX2_faultOfForm 0 = .ok (.aload_n 0, 1) := by decide +kernel
theorem dX2_faultOfForm_1 : decode cX2_faultOfForm 1 = .ok (.getfield 15, 3) := by decide +kernel
theorem dX2_faultOfForm_4 : decode cX2_faultOfForm 4 = .ok (.ifCond .ne 5, 3) := by decide +kernel
theorem dX2_faultOfForm_7 : decode cX2_faultOfForm 7 = .ok (.iconst 0, 1) := by decide +kernel
theorem dX2_faultOfForm_8 : decode cX2_faultOfForm 8 = .ok (.ireturn, 1) := by decide +kernel
theorem dX2_faultOfForm_9 : decode cX2_faultOfForm 9 = .ok (.iconst 0, 1) := by decide +kernel
theorem dX2_faultOfForm_10 : decode cX2_faultOfForm 10 = .ok (.istore_n 1, 1) := by decide +kernel
theorem dX2_faultOfForm_11 : decode cX2_faultOfForm 11 = .ok (.iload_n 1, 1) := by decide +kernel
theorem dX2_faultOfForm_12 : decode cX2_faultOfForm 12 = .ok (.aload_n 0, 1) := by decide +kernel
theorem dX2_faultOfForm_13 : decode cX2_faultOfForm 13 = .ok (.getfield 15, 3) := by decide +kernel
theorem dX2_faultOfForm_16 : decode cX2_faultOfForm 16 = .ok (.if_icmp .ge 74, 3) := by decide +kernel
theorem dX2_faultOfForm_19 : decode cX2_faultOfForm 19 = .ok (.aload_n 0, 1) := by decide +kernel
theorem dX2_faultOfForm_20 : decode cX2_faultOfForm 20 = .ok (.iload_n 1, 1) := by decide +kernel
theorem dX2_faultOfForm_21 : decode cX2_faultOfForm 21 = .ok (.invokevirtual 27, 3) := by decide +kernel
theorem dX2_faultOfForm_24 : decode cX2_faultOfForm 24 = .ok (.invokestatic 60, 3) := by decide +kernel
theorem dX2_faultOfForm_27 : decode cX2_faultOfForm 27 = .ok (.astore_n 2, 1) := by decide +kernel
theorem dX2_faultOfForm_28 : decode cX2_faultOfForm 28 = .ok (.aload_n 2, 1) := by decide +kernel
theorem dX2_faultOfForm_29 : decode cX2_faultOfForm 29 = .ok (.invokevirtual 67, 3) := by decide +kernel
theorem dX2_faultOfForm_32 : decode cX2_faultOfForm 32 = .ok (.ifCond .eq 5, 3) := by decide +kernel
theorem dX2_faultOfForm_35 : decode cX2_faultOfForm 35 = .ok (.iload_n 1, 1) := by decide +kernel
theorem dX2_faultOfForm_36 : decode cX2_faultOfForm 36 = .ok (.ireturn, 1) := by decide +kernel
theorem dX2_faultOfForm_37 : decode cX2_faultOfForm 37 = .ok (.iconst 1, 1) := by decide +kernel
theorem dX2_faultOfForm_38 : decode cX2_faultOfForm 38 = .ok (.istore_n 3, 1) := by decide +kernel
theorem dX2_faultOfForm_39 : decode cX2_faultOfForm 39 = .ok (.iload_n 3, 1) := by decide +kernel
theorem dX2_faultOfForm_40 : decode cX2_faultOfForm 40 = .ok (.aload_n 2, 1) := by decide +kernel
theorem dX2_faultOfForm_41 : decode cX2_faultOfForm 41 = .ok (.invokevirtual 64, 3) := by decide +kernel
theorem dX2_faultOfForm_44 : decode cX2_faultOfForm 44 = .ok (.if_icmp .ge 31, 3) := by decide +kernel
theorem dX2_faultOfForm_47 : decode cX2_faultOfForm 47 = .ok (.aload_n 2, 1) := by decide +kernel
theorem dX2_faultOfForm_48 : decode cX2_faultOfForm 48 = .ok (.iload_n 3, 1) := by decide +kernel
theorem dX2_faultOfForm_49 : decode cX2_faultOfForm 49 = .ok (.invokevirtual 71, 3) := by decide +kernel
theorem dX2_faultOfForm_52 : decode cX2_faultOfForm 52 = .ok (.aload_n 0, 1) := by decide +kernel
theorem dX2_faultOfForm_53 : decode cX2_faultOfForm 53 = .ok (.iload_n 1, 1) := by decide +kernel
theorem dX2_faultOfForm_54 : decode cX2_faultOfForm 54 = .ok (.iload_n 3, 1) := by decide +kernel
theorem dX2_faultOfForm_55 : decode cX2_faultOfForm 55 = .ok (.iadd, 1) := by decide +kernel
theorem dX2_faultOfForm_56 : decode cX2_faultOfForm 56 = .ok (.invokevirtual 27, 3) := by decide +kernel
theorem dX2_faultOfForm_59 : decode cX2_faultOfForm 59 = .ok (.invokestatic 75, 3) := by decide +kernel
theorem dX2_faultOfForm_62 : decode cX2_faultOfForm 62 = .ok (.ifCond .ne 7, 3) := by decide +kernel
theorem dX2_faultOfForm_65 : decode cX2_faultOfForm 65 = .ok (.iload_n 1, 1) := by decide +kernel
theorem dX2_faultOfForm_66 : decode cX2_faultOfForm 66 = .ok (.iload_n 3, 1) := by decide +kernel
theorem dX2_faultOfForm_67 : decode cX2_faultOfForm 67 = .ok (.iadd, 1) := by decide +kernel
theorem dX2_faultOfForm_68 : decode cX2_faultOfForm 68 = .ok (.ireturn, 1) := by decide +kernel
theorem dX2_faultOfForm_69 : decode cX2_faultOfForm 69 = .ok (.iinc 3 1, 3) := by decide +kernel
theorem dX2_faultOfForm_72 : decode cX2_faultOfForm 72 = .ok (.goto (-33), 3) := by decide +kernel
theorem dX2_faultOfForm_75 : decode cX2_faultOfForm 75 = .ok (.iload_n 1, 1) := by decide +kernel
theorem dX2_faultOfForm_76 : decode cX2_faultOfForm 76 = .ok (.iconst 1, 1) := by decide +kernel
theorem dX2_faultOfForm_77 : decode cX2_faultOfForm 77 = .ok (.aload_n 0, 1) := by decide +kernel
theorem dX2_faultOfForm_78 : decode cX2_faultOfForm 78 = .ok (.iload_n 1, 1) := by decide +kernel
theorem dX2_faultOfForm_79 : decode cX2_faultOfForm 79 = .ok (.invokevirtual 79, 3) := by decide +kernel
theorem dX2_faultOfForm_82 : decode cX2_faultOfForm 82 = .ok (.invokestatic 82, 3) := by decide +kernel
theorem dX2_faultOfForm_85 : decode cX2_faultOfForm 85 = .ok (.iadd, 1) := by decide +kernel
theorem dX2_faultOfForm_86 : decode cX2_faultOfForm 86 = .ok (.istore_n 1, 1) := by decide +kernel
theorem dX2_faultOfForm_87 : decode cX2_faultOfForm 87 = .ok (.goto (-76), 3) := by decide +kernel
theorem dX2_faultOfForm_90 : decode cX2_faultOfForm 90 = .ok (.bipush (-9), 2) := by decide +kernel
theorem dX2_faultOfForm_92 : decode cX2_faultOfForm 92 = .ok (.ireturn, 1) := by decide +kernel
theorem dX2_faultOfSense_0 : decode cX2_faultOfSense 0 = .ok (.iload_n 1, 1) := by decide +kernel
theorem dX2_faultOfSense_1 : decode cX2_faultOfSense 1 = .ok (.istore_n 3, 1) := by decide +kernel
theorem dX2_faultOfSense_2 : decode cX2_faultOfSense 2 = .ok (.iload_n 2, 1) := by decide +kernel
theorem dX2_faultOfSense_3 : decode cX2_faultOfSense 3 = .ok (.istore 4, 2) := by decide +kernel
theorem dX2_faultOfSense_5 : decode cX2_faultOfSense 5 = .ok (.iconst 0, 1) := by decide +kernel
theorem dX2_faultOfSense_6 : decode cX2_faultOfSense 6 = .ok (.istore 5, 2) := by decide +kernel
theorem dX2_faultOfSense_8 : decode cX2_faultOfSense 8 = .ok (.iload 5, 2) := by decide +kernel
theorem dX2_faultOfSense_10 : decode cX2_faultOfSense 10 = .ok (.aload_n 0, 1) := by decide +kernel
theorem dX2_faultOfSense_11 : decode cX2_faultOfSense 11 = .ok (.getfield 15, 3) := by decide +kernel
theorem dX2_faultOfSense_14 : decode cX2_faultOfSense 14 = .ok (.if_icmp .ge 74, 3) := by decide +kernel
theorem dX2_faultOfSense_17 : decode cX2_faultOfSense 17 = .ok (.aload_n 0, 1) := by decide +kernel
theorem dX2_faultOfSense_18 : decode cX2_faultOfSense 18 = .ok (.iload 5, 2) := by decide +kernel
theorem dX2_faultOfSense_20 : decode cX2_faultOfSense 20 = .ok (.iload_n 3, 1) := by decide +kernel
theorem dX2_faultOfSense_21 : decode cX2_faultOfSense 21 = .ok (.iload 4, 2) := by decide +kernel
theorem dX2_faultOfSense_23 : decode cX2_faultOfSense 23 = .ok (.invokevirtual 88, 3) := by decide +kernel
theorem dX2_faultOfSense_26 : decode cX2_faultOfSense 26 = .ok (.ifCond .ne 6, 3) := by decide +kernel
theorem dX2_faultOfSense_29 : decode cX2_faultOfSense 29 = .ok (.iload 5, 2) := by decide +kernel
theorem dX2_faultOfSense_31 : decode cX2_faultOfSense 31 = .ok (.ireturn, 1) := by decide +kernel
theorem dX2_faultOfSense_32 : decode cX2_faultOfSense 32 = .ok (.aload_n 0, 1) := by decide +kernel
theorem dX2_faultOfSense_33 : decode cX2_faultOfSense 33 = .ok (.iload 5, 2) := by decide +kernel
theorem dX2_faultOfSense_35 : decode cX2_faultOfSense 35 = .ok (.invokevirtual 27, 3) := by decide +kernel
theorem dX2_faultOfSense_38 : decode cX2_faultOfSense 38 = .ok (.bipush 99, 2) := by decide +kernel
theorem dX2_faultOfSense_40 : decode cX2_faultOfSense 40 = .ok (.if_icmp .ne 6, 3) := by decide +kernel
theorem dX2_faultOfSense_43 : decode cX2_faultOfSense 43 = .ok (.iinc 3 1, 3) := by decide +kernel
theorem dX2_faultOfSense_46 : decode cX2_faultOfSense 46 = .ok (.aload_n 0, 1) := by decide +kernel
theorem dX2_faultOfSense_47 : decode cX2_faultOfSense 47 = .ok (.iload 5, 2) := by decide +kernel
theorem dX2_faultOfSense_49 : decode cX2_faultOfSense 49 = .ok (.invokevirtual 27, 3) := by decide +kernel
theorem dX2_faultOfSense_52 : decode cX2_faultOfSense 52 = .ok (.bipush 100, 2) := by decide +kernel
theorem dX2_faultOfSense_54 : decode cX2_faultOfSense 54 = .ok (.if_icmp .ne 16, 3) := by decide +kernel
theorem dX2_faultOfSense_57 : decode cX2_faultOfSense 57 = .ok (.iload 4, 2) := by decide +kernel
theorem dX2_faultOfSense_59 : decode cX2_faultOfSense 59 = .ok (.aload_n 0, 1) := by decide +kernel
theorem dX2_faultOfSense_60 : decode cX2_faultOfSense 60 = .ok (.iload 5, 2) := by decide +kernel
theorem dX2_faultOfSense_62 : decode cX2_faultOfSense 62 = .ok (.iconst 1, 1) := by decide +kernel
theorem dX2_faultOfSense_63 : decode cX2_faultOfSense 63 = .ok (.iadd, 1) := by decide +kernel
theorem dX2_faultOfSense_64 : decode cX2_faultOfSense 64 = .ok (.invokevirtual 92, 3) := by decide +kernel
theorem dX2_faultOfSense_67 : decode cX2_faultOfSense 67 = .ok (.iadd, 1) := by decide +kernel
theorem dX2_faultOfSense_68 : decode cX2_faultOfSense 68 = .ok (.istore 4, 2) := by decide +kernel
theorem dX2_faultOfSense_70 : decode cX2_faultOfSense 70 = .ok (.iload 5, 2) := by decide +kernel
theorem dX2_faultOfSense_72 : decode cX2_faultOfSense 72 = .ok (.iconst 1, 1) := by decide +kernel
theorem dX2_faultOfSense_73 : decode cX2_faultOfSense 73 = .ok (.aload_n 0, 1) := by decide +kernel
theorem dX2_faultOfSense_74 : decode cX2_faultOfSense 74 = .ok (.iload 5, 2) := by decide +kernel
theorem dX2_faultOfSense_76 : decode cX2_faultOfSense 76 = .ok (.invokevirtual 79, 3) := by decide +kernel
theorem dX2_faultOfSense_79 : decode cX2_faultOfSense 79 = .ok (.invokestatic 82, 3) := by decide +kernel
theorem dX2_faultOfSense_82 : decode cX2_faultOfSense 82 = .ok (.iadd, 1) := by decide +kernel
theorem dX2_faultOfSense_83 : decode cX2_faultOfSense 83 = .ok (.istore 5, 2) := by decide +kernel
theorem dX2_faultOfSense_85 : decode cX2_faultOfSense 85 = .ok (.goto (-77), 3) := by decide +kernel
theorem dX2_faultOfSense_88 : decode cX2_faultOfSense 88 = .ok (.bipush (-9), 2) := by decide +kernel
theorem dX2_faultOfSense_90 : decode cX2_faultOfSense 90 = .ok (.ireturn, 1) := by decide +kernel
theorem dX2_isSensible_0 : decode cX2_isSensible 0 = .ok (.aload_n 0, 1) := by decide +kernel
theorem dX2_isSensible_1 : decode cX2_isSensible 1 = .ok (.iload_n 1, 1) := by decide +kernel
theorem dX2_isSensible_2 : decode cX2_isSensible 2 = .ok (.invokevirtual 27, 3) := by decide +kernel
theorem dX2_isSensible_5 : decode cX2_isSensible 5 = .ok (.tableswitch 225 99 112 #[71, 188, 225, 225, 225, 137, 225, 225, 107, 225, 225, 225, 225, 166], 71) := by decide +kernel
theorem dX2_isSensible_76 : decode cX2_isSensible 76 = .ok (.iload_n 2, 1) := by decide +kernel
theorem dX2_isSensible_77 : decode cX2_isSensible 77 = .ok (.bipush 7, 2) := by decide +kernel
theorem dX2_isSensible_79 : decode cX2_isSensible 79 = .ok (.if_icmp .ge 31, 3) := by decide +kernel
theorem dX2_isSensible_82 : decode cX2_isSensible 82 = .ok (.aload_n 0, 1) := by decide +kernel
theorem dX2_isSensible_83 : decode cX2_isSensible 83 = .ok (.iload_n 1, 1) := by decide +kernel
theorem dX2_isSensible_84 : decode cX2_isSensible 84 = .ok (.iconst 4, 1) := by decide +kernel
theorem dX2_isSensible_85 : decode cX2_isSensible 85 = .ok (.iadd, 1) := by decide +kernel
theorem dX2_isSensible_86 : decode cX2_isSensible 86 = .ok (.invokevirtual 31, 3) := by decide +kernel
theorem dX2_isSensible_89 : decode cX2_isSensible 89 = .ok (.bipush 8, 2) := by decide +kernel
theorem dX2_isSensible_91 : decode cX2_isSensible 91 = .ok (.if_icmp .ge 19, 3) := by decide +kernel
theorem dX2_isSensible_94 : decode cX2_isSensible 94 = .ok (.aload_n 0, 1) := by decide +kernel
theorem dX2_isSensible_95 : decode cX2_isSensible 95 = .ok (.iload_n 1, 1) := by decide +kernel
theorem dX2_isSensible_96 : decode cX2_isSensible 96 = .ok (.iconst 5, 1) := by decide +kernel
theorem dX2_isSensible_97 : decode cX2_isSensible 97 = .ok (.iadd, 1) := by decide +kernel
theorem dX2_isSensible_98 : decode cX2_isSensible 98 = .ok (.invokevirtual 92, 3) := by decide +kernel
theorem dX2_isSensible_101 : decode cX2_isSensible 101 = .ok (.bipush 24, 2) := by decide +kernel
theorem dX2_isSensible_103 : decode cX2_isSensible 103 = .ok (.if_icmp .ge 7, 3) := by decide +kernel
theorem dX2_isSensible_106 : decode cX2_isSensible 106 = .ok (.iconst 1, 1) := by decide +kernel
theorem dX2_isSensible_107 : decode cX2_isSensible 107 = .ok (.goto 4, 3) := by decide +kernel
theorem dX2_isSensible_110 : decode cX2_isSensible 110 = .ok (.iconst 0, 1) := by decide +kernel
theorem dX2_isSensible_111 : decode cX2_isSensible 111 = .ok (.ireturn, 1) := by decide +kernel
theorem dX2_isSensible_112 : decode cX2_isSensible 112 = .ok (.aload_n 0, 1) := by decide +kernel
theorem dX2_isSensible_113 : decode cX2_isSensible 113 = .ok (.iload_n 1, 1) := by decide +kernel
theorem dX2_isSensible_114 : decode cX2_isSensible 114 = .ok (.iconst 1, 1) := by decide +kernel
theorem dX2_isSensible_115 : decode cX2_isSensible 115 = .ok (.iadd, 1) := by decide +kernel
theorem dX2_isSensible_116 : decode cX2_isSensible 116 = .ok (.invokevirtual 31, 3) := by decide +kernel
theorem dX2_isSensible_119 : decode cX2_isSensible 119 = .ok (.bipush 8, 2) := by decide +kernel
theorem dX2_isSensible_121 : decode cX2_isSensible 121 = .ok (.if_icmp .ge 19, 3) := by decide +kernel
theorem dX2_isSensible_124 : decode cX2_isSensible 124 = .ok (.aload_n 0, 1) := by decide +kernel
theorem dX2_isSensible_125 : decode cX2_isSensible 125 = .ok (.iload_n 1, 1) := by decide +kernel
theorem dX2_isSensible_126 : decode cX2_isSensible 126 = .ok (.iconst 2, 1) := by decide +kernel
theorem dX2_isSensible_127 : decode cX2_isSensible 127 = .ok (.iadd, 1) := by decide +kernel
theorem dX2_isSensible_128 : decode cX2_isSensible 128 = .ok (.invokevirtual 92, 3) := by decide +kernel
theorem dX2_isSensible_131 : decode cX2_isSensible 131 = .ok (.bipush 20, 2) := by decide +kernel
theorem dX2_isSensible_133 : decode cX2_isSensible 133 = .ok (.if_icmp .gt 7, 3) := by decide +kernel
theorem dX2_isSensible_136 : decode cX2_isSensible 136 = .ok (.iconst 1, 1) := by decide +kernel
theorem dX2_isSensible_137 : decode cX2_isSensible 137 = .ok (.goto 4, 3) := by decide +kernel
theorem dX2_isSensible_140 : decode cX2_isSensible 140 = .ok (.iconst 0, 1) := by decide +kernel
theorem dX2_isSensible_141 : decode cX2_isSensible 141 = .ok (.ireturn, 1) := by decide +kernel
theorem dX2_isSensible_142 : decode cX2_isSensible 142 = .ok (.aload_n 0, 1) := by decide +kernel
theorem dX2_isSensible_143 : decode cX2_isSensible 143 = .ok (.iload_n 1, 1) := by decide +kernel
theorem dX2_isSensible_144 : decode cX2_isSensible 144 = .ok (.iconst 1, 1) := by decide +kernel
theorem dX2_isSensible_145 : decode cX2_isSensible 145 = .ok (.iadd, 1) := by decide +kernel
theorem dX2_isSensible_146 : decode cX2_isSensible 146 = .ok (.invokevirtual 31, 3) := by decide +kernel
theorem dX2_isSensible_149 : decode cX2_isSensible 149 = .ok (.iload_n 2, 1) := by decide +kernel
theorem dX2_isSensible_150 : decode cX2_isSensible 150 = .ok (.if_icmp .ge 19, 3) := by decide +kernel
theorem dX2_isSensible_153 : decode cX2_isSensible 153 = .ok (.aload_n 0, 1) := by decide +kernel
theorem dX2_isSensible_154 : decode cX2_isSensible 154 = .ok (.iload_n 1, 1) := by decide +kernel
theorem dX2_isSensible_155 : decode cX2_isSensible 155 = .ok (.iconst 2, 1) := by decide +kernel
theorem dX2_isSensible_156 : decode cX2_isSensible 156 = .ok (.iadd, 1) := by decide +kernel
theorem dX2_isSensible_157 : decode cX2_isSensible 157 = .ok (.invokevirtual 92, 3) := by decide +kernel
theorem dX2_isSensible_160 : decode cX2_isSensible 160 = .ok (.bipush 24, 2) := by decide +kernel
theorem dX2_isSensible_162 : decode cX2_isSensible 162 = .ok (.if_icmp .ge 7, 3) := by decide +kernel
theorem dX2_isSensible_165 : decode cX2_isSensible 165 = .ok (.iconst 1, 1) := by decide +kernel
theorem dX2_isSensible_166 : decode cX2_isSensible 166 = .ok (.goto 4, 3) := by decide +kernel
theorem dX2_isSensible_169 : decode cX2_isSensible 169 = .ok (.iconst 0, 1) := by decide +kernel
theorem dX2_isSensible_170 : decode cX2_isSensible 170 = .ok (.ireturn, 1) := by decide +kernel
theorem dX2_isSensible_171 : decode cX2_isSensible 171 = .ok (.aload_n 0, 1) := by decide +kernel
theorem dX2_isSensible_172 : decode cX2_isSensible 172 = .ok (.iload_n 1, 1) := by decide +kernel
theorem dX2_isSensible_173 : decode cX2_isSensible 173 = .ok (.iconst 1, 1) := by decide +kernel
theorem dX2_isSensible_174 : decode cX2_isSensible 174 = .ok (.iadd, 1) := by decide +kernel
theorem dX2_isSensible_175 : decode cX2_isSensible 175 = .ok (.invokevirtual 92, 3) := by decide +kernel
theorem dX2_isSensible_178 : decode cX2_isSensible 178 = .ok (.iconst 1, 1) := by decide +kernel
theorem dX2_isSensible_179 : decode cX2_isSensible 179 = .ok (.bipush 20, 2) := by decide +kernel
theorem dX2_isSensible_181 : decode cX2_isSensible 181 = .ok (.invokestatic 95, 3) := by decide +kernel
theorem dX2_isSensible_184 : decode cX2_isSensible 184 = .ok (.ifCond .ne 7, 3) := by decide +kernel
theorem dX2_isSensible_187 : decode cX2_isSensible 187 = .ok (.iconst 1, 1) := by decide +kernel
theorem dX2_isSensible_188 : decode cX2_isSensible 188 = .ok (.goto 4, 3) := by decide +kernel
theorem dX2_isSensible_191 : decode cX2_isSensible 191 = .ok (.iconst 0, 1) := by decide +kernel
theorem dX2_isSensible_192 : decode cX2_isSensible 192 = .ok (.ireturn, 1) := by decide +kernel
theorem dX2_isSensible_193 : decode cX2_isSensible 193 = .ok (.aload_n 0, 1) := by decide +kernel
theorem dX2_isSensible_194 : decode cX2_isSensible 194 = .ok (.iload_n 1, 1) := by decide +kernel
theorem dX2_isSensible_195 : decode cX2_isSensible 195 = .ok (.iconst 1, 1) := by decide +kernel
theorem dX2_isSensible_196 : decode cX2_isSensible 196 = .ok (.iadd, 1) := by decide +kernel
theorem dX2_isSensible_197 : decode cX2_isSensible 197 = .ok (.invokevirtual 92, 3) := by decide +kernel
theorem dX2_isSensible_200 : decode cX2_isSensible 200 = .ok (.iconst 1, 1) := by decide +kernel
theorem dX2_isSensible_201 : decode cX2_isSensible 201 = .ok (.bipush 60, 2) := by decide +kernel
theorem dX2_isSensible_203 : decode cX2_isSensible 203 = .ok (.invokestatic 95, 3) := by decide +kernel
theorem dX2_isSensible_206 : decode cX2_isSensible 206 = .ok (.ifCond .ne 22, 3) := by decide +kernel
theorem dX2_isSensible_209 : decode cX2_isSensible 209 = .ok (.iload_n 3, 1) := by decide +kernel
theorem dX2_isSensible_210 : decode cX2_isSensible 210 = .ok (.aload_n 0, 1) := by decide +kernel
theorem dX2_isSensible_211 : decode cX2_isSensible 211 = .ok (.iload_n 1, 1) := by decide +kernel
theorem dX2_isSensible_212 : decode cX2_isSensible 212 = .ok (.iconst 1, 1) := by decide +kernel
theorem dX2_isSensible_213 : decode cX2_isSensible 213 = .ok (.iadd, 1) := by decide +kernel
theorem dX2_isSensible_214 : decode cX2_isSensible 214 = .ok (.invokevirtual 92, 3) := by decide +kernel
theorem dX2_isSensible_217 : decode cX2_isSensible 217 = .ok (.iadd, 1) := by decide +kernel
theorem dX2_isSensible_218 : decode cX2_isSensible 218 = .ok (.sipush 999, 3) := by decide +kernel
theorem dX2_isSensible_221 : decode cX2_isSensible 221 = .ok (.if_icmp .gt 7, 3) := by decide +kernel
theorem dX2_isSensible_224 : decode cX2_isSensible 224 = .ok (.iconst 1, 1) := by decide +kernel
theorem dX2_isSensible_225 : decode cX2_isSensible 225 = .ok (.goto 4, 3) := by decide +kernel
theorem dX2_isSensible_228 : decode cX2_isSensible 228 = .ok (.iconst 0, 1) := by decide +kernel
theorem dX2_isSensible_229 : decode cX2_isSensible 229 = .ok (.ireturn, 1) := by decide +kernel
theorem dX2_isSensible_230 : decode cX2_isSensible 230 = .ok (.iconst 1, 1) := by decide +kernel
theorem dX2_isSensible_231 : decode cX2_isSensible 231 = .ok (.ireturn, 1) := by decide +kernel
theorem dX2_comeTo_0 : decode cX2_comeTo 0 = .ok (.iconst 0, 1) := by decide +kernel
theorem dX2_comeTo_1 : decode cX2_comeTo 1 = .ok (.istore_n 2, 1) := by decide +kernel
theorem dX2_comeTo_2 : decode cX2_comeTo 2 = .ok (.iconst 0, 1) := by decide +kernel
theorem dX2_comeTo_3 : decode cX2_comeTo 3 = .ok (.istore_n 3, 1) := by decide +kernel
theorem dX2_comeTo_4 : decode cX2_comeTo 4 = .ok (.iload_n 3, 1) := by decide +kernel
theorem dX2_comeTo_5 : decode cX2_comeTo 5 = .ok (.aload_n 0, 1) := by decide +kernel
theorem dX2_comeTo_6 : decode cX2_comeTo 6 = .ok (.getfield 15, 3) := by decide +kernel
theorem dX2_comeTo_9 : decode cX2_comeTo 9 = .ok (.if_icmp .ge 27, 3) := by decide +kernel
theorem dX2_comeTo_12 : decode cX2_comeTo 12 = .ok (.aload_n 0, 1) := by decide +kernel
theorem dX2_comeTo_13 : decode cX2_comeTo 13 = .ok (.iload_n 3, 1) := by decide +kernel
theorem dX2_comeTo_14 : decode cX2_comeTo 14 = .ok (.aload_n 1, 1) := by decide +kernel
theorem dX2_comeTo_15 : decode cX2_comeTo 15 = .ok (.invokevirtual 99, 3) := by decide +kernel
theorem dX2_comeTo_18 : decode cX2_comeTo 18 = .ok (.iinc 2 1, 3) := by decide +kernel
theorem dX2_comeTo_21 : decode cX2_comeTo 21 = .ok (.iload_n 3, 1) := by decide +kernel
theorem dX2_comeTo_22 : decode cX2_comeTo 22 = .ok (.iconst 1, 1) := by decide +kernel
theorem dX2_comeTo_23 : decode cX2_comeTo 23 = .ok (.aload_n 0, 1) := by decide +kernel
theorem dX2_comeTo_24 : decode cX2_comeTo 24 = .ok (.iload_n 3, 1) := by decide +kernel
theorem dX2_comeTo_25 : decode cX2_comeTo 25 = .ok (.invokevirtual 79, 3) := by decide +kernel
theorem dX2_comeTo_28 : decode cX2_comeTo 28 = .ok (.invokestatic 82, 3) := by decide +kernel
theorem dX2_comeTo_31 : decode cX2_comeTo 31 = .ok (.iadd, 1) := by decide +kernel
theorem dX2_comeTo_32 : decode cX2_comeTo 32 = .ok (.istore_n 3, 1) := by decide +kernel
theorem dX2_comeTo_33 : decode cX2_comeTo 33 = .ok (.goto (-29), 3) := by decide +kernel
theorem dX2_comeTo_36 : decode cX2_comeTo 36 = .ok (.iload_n 2, 1) := by decide +kernel
theorem dX2_comeTo_37 : decode cX2_comeTo 37 = .ok (.ireturn, 1) := by decide +kernel
theorem dX2_bring_0 : decode cX2_bring 0 = .ok (.aload_n 0, 1) := by decide +kernel
theorem dX2_bring_1 : decode cX2_bring 1 = .ok (.iload_n 1, 1) := by decide +kernel
theorem dX2_bring_2 : decode cX2_bring 2 = .ok (.invokevirtual 27, 3) := by decide +kernel
theorem dX2_bring_5 : decode cX2_bring 5 = .ok (.tableswitch 255 99 117 #[91, 223, 255, 255, 255, 160, 255, 255, 136, 255, 255, 255, 255, 209, 255, 255, 255, 181, 195], 91) := by decide +kernel
theorem dX2_bring_96 : decode cX2_bring 96 = .ok (.aload_n 2, 1) := by decide +kernel
theorem dX2_bring_97 : decode cX2_bring 97 = .ok (.aload_n 0, 1) := by decide +kernel
theorem dX2_bring_98 : decode cX2_bring 98 = .ok (.iload_n 1, 1) := by decide +kernel
theorem dX2_bring_99 : decode cX2_bring 99 = .ok (.iconst 1, 1) := by decide +kernel
theorem dX2_bring_100 : decode cX2_bring 100 = .ok (.iadd, 1) := by decide +kernel
theorem dX2_bring_101 : decode cX2_bring 101 = .ok (.invokevirtual 27, 3) := by decide +kernel
theorem dX2_bring_104 : decode cX2_bring 104 = .ok (.invokestatic 50, 3) := by decide +kernel
theorem dX2_bring_107 : decode cX2_bring 107 = .ok (.aload_n 0, 1) := by decide +kernel
theorem dX2_bring_108 : decode cX2_bring 108 = .ok (.iload_n 1, 1) := by decide +kernel
theorem dX2_bring_109 : decode cX2_bring 109 = .ok (.iconst 2, 1) := by decide +kernel
theorem dX2_bring_110 : decode cX2_bring 110 = .ok (.iadd, 1) := by decide +kernel
theorem dX2_bring_111 : decode cX2_bring 111 = .ok (.invokevirtual 31, 3) := by decide +kernel
theorem dX2_bring_114 : decode cX2_bring 114 = .ok (.aload_n 0, 1) := by decide +kernel
theorem dX2_bring_115 : decode cX2_bring 115 = .ok (.iload_n 1, 1) := by decide +kernel
theorem dX2_bring_116 : decode cX2_bring 116 = .ok (.iconst 3, 1) := by decide +kernel
theorem dX2_bring_117 : decode cX2_bring 117 = .ok (.iadd, 1) := by decide +kernel
theorem dX2_bring_118 : decode cX2_bring 118 = .ok (.invokevirtual 31, 3) := by decide +kernel
theorem dX2_bring_121 : decode cX2_bring 121 = .ok (.aload_n 0, 1) := by decide +kernel
theorem dX2_bring_122 : decode cX2_bring 122 = .ok (.iload_n 1, 1) := by decide +kernel
theorem dX2_bring_123 : decode cX2_bring 123 = .ok (.iconst 4, 1) := by decide +kernel
theorem dX2_bring_124 : decode cX2_bring 124 = .ok (.iadd, 1) := by decide +kernel
theorem dX2_bring_125 : decode cX2_bring 125 = .ok (.invokevirtual 31, 3) := by decide +kernel
theorem dX2_bring_128 : decode cX2_bring 128 = .ok (.aload_n 0, 1) := by decide +kernel
theorem dX2_bring_129 : decode cX2_bring 129 = .ok (.iload_n 1, 1) := by decide +kernel
theorem dX2_bring_130 : decode cX2_bring 130 = .ok (.iconst 5, 1) := by decide +kernel
theorem dX2_bring_131 : decode cX2_bring 131 = .ok (.iadd, 1) := by decide +kernel
theorem dX2_bring_132 : decode cX2_bring 132 = .ok (.invokevirtual 92, 3) := by decide +kernel
theorem dX2_bring_135 : decode cX2_bring 135 = .ok (.invokevirtual 103, 3) := by decide +kernel
theorem dX2_bring_138 : decode cX2_bring 138 = .ok (.goto 122, 3) := by decide +kernel
theorem dX2_bring_141 : decode cX2_bring 141 = .ok (.aload_n 2, 1) := by decide +kernel
theorem dX2_bring_142 : decode cX2_bring 142 = .ok (.getfield 109, 3) := by decide +kernel
theorem dX2_bring_145 : decode cX2_bring 145 = .ok (.aload_n 0, 1) := by decide +kernel
theorem dX2_bring_146 : decode cX2_bring 146 = .ok (.iload_n 1, 1) := by decide +kernel
theorem dX2_bring_147 : decode cX2_bring 147 = .ok (.iconst 1, 1) := by decide +kernel
theorem dX2_bring_148 : decode cX2_bring 148 = .ok (.iadd, 1) := by decide +kernel
theorem dX2_bring_149 : decode cX2_bring 149 = .ok (.invokevirtual 31, 3) := by decide +kernel
theorem dX2_bring_152 : decode cX2_bring 152 = .ok (.aload_n 0, 1) := by decide +kernel
theorem dX2_bring_153 : decode cX2_bring 153 = .ok (.iload_n 1, 1) := by decide +kernel
theorem dX2_bring_154 : decode cX2_bring 154 = .ok (.iconst 2, 1) := by decide +kernel
theorem dX2_bring_155 : decode cX2_bring 155 = .ok (.iadd, 1) := by decide +kernel
theorem dX2_bring_156 : decode cX2_bring 156 = .ok (.invokevirtual 92, 3) := by decide +kernel
theorem dX2_bring_159 : decode cX2_bring 159 = .ok (.invokestatic 19, 3) := by decide +kernel
theorem dX2_bring_162 : decode cX2_bring 162 = .ok (.goto 98, 3) := by decide +kernel
theorem dX2_bring_165 : decode cX2_bring 165 = .ok (.aload_n 2, 1) := by decide +kernel
theorem dX2_bring_166 : decode cX2_bring 166 = .ok (.aload_n 0, 1) := by decide +kernel
theorem dX2_bring_167 : decode cX2_bring 167 = .ok (.iload_n 1, 1) := by decide +kernel
theorem dX2_bring_168 : decode cX2_bring 168 = .ok (.iconst 1, 1) := by decide +kernel
theorem dX2_bring_169 : decode cX2_bring 169 = .ok (.iadd, 1) := by decide +kernel
theorem dX2_bring_170 : decode cX2_bring 170 = .ok (.invokevirtual 31, 3) := by decide +kernel
theorem dX2_bring_173 : decode cX2_bring 173 = .ok (.aload_n 0, 1) := by decide +kernel
theorem dX2_bring_174 : decode cX2_bring 174 = .ok (.iload_n 1, 1) := by decide +kernel
theorem dX2_bring_175 : decode cX2_bring 175 = .ok (.iconst 2, 1) := by decide +kernel
theorem dX2_bring_176 : decode cX2_bring 176 = .ok (.iadd, 1) := by decide +kernel
theorem dX2_bring_177 : decode cX2_bring 177 = .ok (.invokevirtual 92, 3) := by decide +kernel
theorem dX2_bring_180 : decode cX2_bring 180 = .ok (.invokevirtual 112, 3) := by decide +kernel
theorem dX2_bring_183 : decode cX2_bring 183 = .ok (.goto 77, 3) := by decide +kernel
theorem dX2_bring_186 : decode cX2_bring 186 = .ok (.aload_n 2, 1) := by decide +kernel
theorem dX2_bring_187 : decode cX2_bring 187 = .ok (.aload_n 0, 1) := by decide +kernel
theorem dX2_bring_188 : decode cX2_bring 188 = .ok (.iload_n 1, 1) := by decide +kernel
theorem dX2_bring_189 : decode cX2_bring 189 = .ok (.iconst 1, 1) := by decide +kernel
theorem dX2_bring_190 : decode cX2_bring 190 = .ok (.iadd, 1) := by decide +kernel
theorem dX2_bring_191 : decode cX2_bring 191 = .ok (.invokevirtual 31, 3) := by decide +kernel
theorem dX2_bring_194 : decode cX2_bring 194 = .ok (.putfield 116, 3) := by decide +kernel
theorem dX2_bring_197 : decode cX2_bring 197 = .ok (.goto 63, 3) := by decide +kernel
theorem dX2_bring_200 : decode cX2_bring 200 = .ok (.aload_n 2, 1) := by decide +kernel
theorem dX2_bring_201 : decode cX2_bring 201 = .ok (.aload_n 0, 1) := by decide +kernel
theorem dX2_bring_202 : decode cX2_bring 202 = .ok (.iload_n 1, 1) := by decide +kernel
theorem dX2_bring_203 : decode cX2_bring 203 = .ok (.iconst 1, 1) := by decide +kernel
theorem dX2_bring_204 : decode cX2_bring 204 = .ok (.iadd, 1) := by decide +kernel
theorem dX2_bring_205 : decode cX2_bring 205 = .ok (.invokevirtual 92, 3) := by decide +kernel
theorem dX2_bring_208 : decode cX2_bring 208 = .ok (.putfield 119, 3) := by decide +kernel
theorem dX2_bring_211 : decode cX2_bring 211 = .ok (.goto 49, 3) := by decide +kernel
theorem dX2_bring_214 : decode cX2_bring 214 = .ok (.aload_n 2, 1) := by decide +kernel
theorem dX2_bring_215 : decode cX2_bring 215 = .ok (.aload_n 0, 1) := by decide +kernel
theorem dX2_bring_216 : decode cX2_bring 216 = .ok (.iload_n 1, 1) := by decide +kernel
theorem dX2_bring_217 : decode cX2_bring 217 = .ok (.iconst 1, 1) := by decide +kernel
theorem dX2_bring_218 : decode cX2_bring 218 = .ok (.iadd, 1) := by decide +kernel
theorem dX2_bring_219 : decode cX2_bring 219 = .ok (.invokevirtual 92, 3) := by decide +kernel
theorem dX2_bring_222 : decode cX2_bring 222 = .ok (.putfield 122, 3) := by decide +kernel
theorem dX2_bring_225 : decode cX2_bring 225 = .ok (.goto 35, 3) := by decide +kernel
theorem dX2_bring_228 : decode cX2_bring 228 = .ok (.aload_n 0, 1) := by decide +kernel
theorem dX2_bring_229 : decode cX2_bring 229 = .ok (.iload_n 1, 1) := by decide +kernel
theorem dX2_bring_230 : decode cX2_bring 230 = .ok (.iconst 1, 1) := by decide +kernel
theorem dX2_bring_231 : decode cX2_bring 231 = .ok (.iadd, 1) := by decide +kernel
theorem dX2_bring_232 : decode cX2_bring 232 = .ok (.invokevirtual 92, 3) := by decide +kernel
theorem dX2_bring_235 : decode cX2_bring 235 = .ok (.istore_n 3, 1) := by decide +kernel
theorem dX2_bring_236 : decode cX2_bring 236 = .ok (.iconst 0, 1) := by decide +kernel
theorem dX2_bring_237 : decode cX2_bring 237 = .ok (.istore 4, 2) := by decide +kernel
theorem dX2_bring_239 : decode cX2_bring 239 = .ok (.iload 4, 2) := by decide +kernel
theorem dX2_bring_241 : decode cX2_bring 241 = .ok (.iload_n 3, 1) := by decide +kernel
theorem dX2_bring_242 : decode cX2_bring 242 = .ok (.if_icmp .ge 15, 3) := by decide +kernel
theorem dX2_bring_245 : decode cX2_bring 245 = .ok (.aload_n 2, 1) := by decide +kernel
theorem dX2_bring_246 : decode cX2_bring 246 = .ok (.bipush 127, 2) := by decide +kernel
theorem dX2_bring_248 : decode cX2_bring 248 = .ok (.invokevirtual 125, 3) := by decide +kernel
theorem dX2_bring_251 : decode cX2_bring 251 = .ok (.iinc 4 1, 3) := by decide +kernel
theorem dX2_bring_254 : decode cX2_bring 254 = .ok (.goto (-15), 3) := by decide +kernel
theorem dX2_bring_257 : decode cX2_bring 257 = .ok (.goto 3, 3) := by decide +kernel
theorem dX2_bring_260 : decode cX2_bring 260 = .ok (.return_, 1) := by decide +kernel
theorem dJ11_isValidCodePoint_9a6ad_0 : decode cJ11_isValidCodePoint_9a6ad 0 = .ok (.iload_n 0, 1) := by decide +kernel
theorem dJ11_isValidCodePoint_9a6ad_1 : decode cJ11_isValidCodePoint_9a6ad 1 = .ok (.bipush 16, 2) := by decide +kernel
theorem dJ11_isValidCodePoint_9a6ad_3 : decode cJ11_isValidCodePoint_9a6ad 3 = .ok (.iushr, 1) := by decide +kernel
theorem dJ11_isValidCodePoint_9a6ad_4 : decode cJ11_isValidCodePoint_9a6ad 4 = .ok (.istore_n 1, 1) := by decide +kernel
theorem dJ11_isValidCodePoint_9a6ad_5 : decode cJ11_isValidCodePoint_9a6ad 5 = .ok (.iload_n 1, 1) := by decide +kernel
theorem dJ11_isValidCodePoint_9a6ad_6 : decode cJ11_isValidCodePoint_9a6ad 6 = .ok (.bipush 17, 2) := by decide +kernel
theorem dJ11_isValidCodePoint_9a6ad_8 : decode cJ11_isValidCodePoint_9a6ad 8 = .ok (.if_icmp .ge 7, 3) := by decide +kernel
theorem dJ11_isValidCodePoint_9a6ad_11 : decode cJ11_isValidCodePoint_9a6ad 11 = .ok (.iconst 1, 1) := by decide +kernel
theorem dJ11_isValidCodePoint_9a6ad_12 : decode cJ11_isValidCodePoint_9a6ad 12 = .ok (.goto 4, 3) := by decide +kernel
theorem dJ11_isValidCodePoint_9a6ad_15 : decode cJ11_isValidCodePoint_9a6ad 15 = .ok (.iconst 0, 1) := by decide +kernel
theorem dJ11_isValidCodePoint_9a6ad_16 : decode cJ11_isValidCodePoint_9a6ad 16 = .ok (.ireturn, 1) := by decide +kernel
theorem dJ11_highSurrogate_5068e_0 : decode cJ11_highSurrogate_5068e 0 = .ok (.iload_n 0, 1) := by decide +kernel
theorem dJ11_highSurrogate_5068e_1 : decode cJ11_highSurrogate_5068e 1 = .ok (.bipush 10, 2) := by decide +kernel
theorem dJ11_highSurrogate_5068e_3 : decode cJ11_highSurrogate_5068e 3 = .ok (.iushr, 1) := by decide +kernel
theorem dJ11_highSurrogate_5068e_4 : decode cJ11_highSurrogate_5068e 4 = .ok (.ldc 110, 2) := by decide +kernel
theorem dJ11_highSurrogate_5068e_6 : decode cJ11_highSurrogate_5068e 6 = .ok (.iadd, 1) := by decide +kernel
theorem dJ11_highSurrogate_5068e_7 : decode cJ11_highSurrogate_5068e 7 = .ok (.i2c, 1) := by decide +kernel
theorem dJ11_highSurrogate_5068e_8 : decode cJ11_highSurrogate_5068e 8 = .ok (.ireturn, 1) := by decide +kernel
theorem dJ11_lowSurrogate_5068e_0 : decode cJ11_lowSurrogate_5068e 0 = .ok (.iload_n 0, 1) := by decide +kernel
theorem dJ11_lowSurrogate_5068e_1 : decode cJ11_lowSurrogate_5068e 1 = .ok (.sipush 1023, 3) := by decide +kernel
theorem dJ11_lowSurrogate_5068e_4 : decode cJ11_lowSurrogate_5068e 4 = .ok (.iand, 1) := by decide +kernel
theorem dJ11_lowSurrogate_5068e_5 : decode cJ11_lowSurrogate_5068e 5 = .ok (.ldc 76, 2) := by decide +kernel
theorem dJ11_lowSurrogate_5068e_7 : decode cJ11_lowSurrogate_5068e 7 = .ok (.iadd, 1) := by decide +kernel
theorem dJ11_lowSurrogate_5068e_8 : decode cJ11_lowSurrogate_5068e 8 = .ok (.i2c, 1) := by decide +kernel
theorem dJ11_lowSurrogate_5068e_9 : decode cJ11_lowSurrogate_5068e 9 = .ok (.ireturn, 1) := by decide +kernel
theorem dJ6_bitCount_0f7a4_0 : decode cJ6_bitCount_0f7a4 0 = .ok (.iload_n 0, 1) := by decide +kernel
theorem dJ6_bitCount_0f7a4_1 : decode cJ6_bitCount_0f7a4 1 = .ok (.iload_n 0, 1) := by decide +kernel
theorem dJ6_bitCount_0f7a4_2 : decode cJ6_bitCount_0f7a4 2 = .ok (.iconst 1, 1) := by decide +kernel
theorem dJ6_bitCount_0f7a4_3 : decode cJ6_bitCount_0f7a4 3 = .ok (.iushr, 1) := by decide +kernel
theorem dJ6_bitCount_0f7a4_4 : decode cJ6_bitCount_0f7a4 4 = .ok (.ldc_w 265, 3) := by decide +kernel
theorem dJ6_bitCount_0f7a4_7 : decode cJ6_bitCount_0f7a4 7 = .ok (.iand, 1) := by decide +kernel
theorem dJ6_bitCount_0f7a4_8 : decode cJ6_bitCount_0f7a4 8 = .ok (.isub, 1) := by decide +kernel
theorem dJ6_bitCount_0f7a4_9 : decode cJ6_bitCount_0f7a4 9 = .ok (.istore_n 0, 1) := by decide +kernel
theorem dJ6_bitCount_0f7a4_10 : decode cJ6_bitCount_0f7a4 10 = .ok (.iload_n 0, 1) := by decide +kernel
theorem dJ6_bitCount_0f7a4_11 : decode cJ6_bitCount_0f7a4 11 = .ok (.ldc_w 266, 3) := by decide +kernel
theorem dJ6_bitCount_0f7a4_14 : decode cJ6_bitCount_0f7a4 14 = .ok (.iand, 1) := by decide +kernel
theorem dJ6_bitCount_0f7a4_15 : decode cJ6_bitCount_0f7a4 15 = .ok (.iload_n 0, 1) := by decide +kernel
theorem dJ6_bitCount_0f7a4_16 : decode cJ6_bitCount_0f7a4 16 = .ok (.iconst 2, 1) := by decide +kernel
theorem dJ6_bitCount_0f7a4_17 : decode cJ6_bitCount_0f7a4 17 = .ok (.iushr, 1) := by decide +kernel
theorem dJ6_bitCount_0f7a4_18 : decode cJ6_bitCount_0f7a4 18 = .ok (.ldc_w 266, 3) := by decide +kernel
theorem dJ6_bitCount_0f7a4_21 : decode cJ6_bitCount_0f7a4 21 = .ok (.iand, 1) := by decide +kernel
theorem dJ6_bitCount_0f7a4_22 : decode cJ6_bitCount_0f7a4 22 = .ok (.iadd, 1) := by decide +kernel
theorem dJ6_bitCount_0f7a4_23 : decode cJ6_bitCount_0f7a4 23 = .ok (.istore_n 0, 1) := by decide +kernel
theorem dJ6_bitCount_0f7a4_24 : decode cJ6_bitCount_0f7a4 24 = .ok (.iload_n 0, 1) := by decide +kernel
theorem dJ6_bitCount_0f7a4_25 : decode cJ6_bitCount_0f7a4 25 = .ok (.iload_n 0, 1) := by decide +kernel
theorem dJ6_bitCount_0f7a4_26 : decode cJ6_bitCount_0f7a4 26 = .ok (.iconst 4, 1) := by decide +kernel
theorem dJ6_bitCount_0f7a4_27 : decode cJ6_bitCount_0f7a4 27 = .ok (.iushr, 1) := by decide +kernel
theorem dJ6_bitCount_0f7a4_28 : decode cJ6_bitCount_0f7a4 28 = .ok (.iadd, 1) := by decide +kernel
theorem dJ6_bitCount_0f7a4_29 : decode cJ6_bitCount_0f7a4 29 = .ok (.ldc_w 267, 3) := by decide +kernel
theorem dJ6_bitCount_0f7a4_32 : decode cJ6_bitCount_0f7a4 32 = .ok (.iand, 1) := by decide +kernel
theorem dJ6_bitCount_0f7a4_33 : decode cJ6_bitCount_0f7a4 33 = .ok (.istore_n 0, 1) := by decide +kernel
theorem dJ6_bitCount_0f7a4_34 : decode cJ6_bitCount_0f7a4 34 = .ok (.iload_n 0, 1) := by decide +kernel
theorem dJ6_bitCount_0f7a4_35 : decode cJ6_bitCount_0f7a4 35 = .ok (.iload_n 0, 1) := by decide +kernel
theorem dJ6_bitCount_0f7a4_36 : decode cJ6_bitCount_0f7a4 36 = .ok (.bipush 8, 2) := by decide +kernel
theorem dJ6_bitCount_0f7a4_38 : decode cJ6_bitCount_0f7a4 38 = .ok (.iushr, 1) := by decide +kernel
theorem dJ6_bitCount_0f7a4_39 : decode cJ6_bitCount_0f7a4 39 = .ok (.iadd, 1) := by decide +kernel
theorem dJ6_bitCount_0f7a4_40 : decode cJ6_bitCount_0f7a4 40 = .ok (.istore_n 0, 1) := by decide +kernel
theorem dJ6_bitCount_0f7a4_41 : decode cJ6_bitCount_0f7a4 41 = .ok (.iload_n 0, 1) := by decide +kernel
theorem dJ6_bitCount_0f7a4_42 : decode cJ6_bitCount_0f7a4 42 = .ok (.iload_n 0, 1) := by decide +kernel
theorem dJ6_bitCount_0f7a4_43 : decode cJ6_bitCount_0f7a4 43 = .ok (.bipush 16, 2) := by decide +kernel
theorem dJ6_bitCount_0f7a4_45 : decode cJ6_bitCount_0f7a4 45 = .ok (.iushr, 1) := by decide +kernel
theorem dJ6_bitCount_0f7a4_46 : decode cJ6_bitCount_0f7a4 46 = .ok (.iadd, 1) := by decide +kernel
theorem dJ6_bitCount_0f7a4_47 : decode cJ6_bitCount_0f7a4 47 = .ok (.istore_n 0, 1) := by decide +kernel
theorem dJ6_bitCount_0f7a4_48 : decode cJ6_bitCount_0f7a4 48 = .ok (.iload_n 0, 1) := by decide +kernel
theorem dJ6_bitCount_0f7a4_49 : decode cJ6_bitCount_0f7a4 49 = .ok (.bipush 63, 2) := by decide +kernel
theorem dJ6_bitCount_0f7a4_51 : decode cJ6_bitCount_0f7a4 51 = .ok (.iand, 1) := by decide +kernel
theorem dJ6_bitCount_0f7a4_52 : decode cJ6_bitCount_0f7a4 52 = .ok (.ireturn, 1) := by decide +kernel
theorem dJ9_abs_0f7a4_0 : decode cJ9_abs_0f7a4 0 = .ok (.iload_n 0, 1) := by decide +kernel
theorem dJ9_abs_0f7a4_1 : decode cJ9_abs_0f7a4 1 = .ok (.ifCond .ge 8, 3) := by decide +kernel
theorem dJ9_abs_0f7a4_4 : decode cJ9_abs_0f7a4 4 = .ok (.iload_n 0, 1) := by decide +kernel
theorem dJ9_abs_0f7a4_5 : decode cJ9_abs_0f7a4 5 = .ok (.ineg, 1) := by decide +kernel
theorem dJ9_abs_0f7a4_6 : decode cJ9_abs_0f7a4 6 = .ok (.goto 4, 3) := by decide +kernel
theorem dJ9_abs_0f7a4_9 : decode cJ9_abs_0f7a4 9 = .ok (.iload_n 0, 1) := by decide +kernel
theorem dJ9_abs_0f7a4_10 : decode cJ9_abs_0f7a4 10 = .ok (.ireturn, 1) := by decide +kernel
theorem dJ9_max_7cf53_0 : decode cJ9_max_7cf53 0 = .ok (.iload_n 0, 1) := by decide +kernel
theorem dJ9_max_7cf53_1 : decode cJ9_max_7cf53 1 = .ok (.iload_n 1, 1) := by decide +kernel
theorem dJ9_max_7cf53_2 : decode cJ9_max_7cf53 2 = .ok (.if_icmp .lt 7, 3) := by decide +kernel
theorem dJ9_max_7cf53_5 : decode cJ9_max_7cf53 5 = .ok (.iload_n 0, 1) := by decide +kernel
theorem dJ9_max_7cf53_6 : decode cJ9_max_7cf53 6 = .ok (.goto 4, 3) := by decide +kernel
theorem dJ9_max_7cf53_9 : decode cJ9_max_7cf53 9 = .ok (.iload_n 1, 1) := by decide +kernel
theorem dJ9_max_7cf53_10 : decode cJ9_max_7cf53 10 = .ok (.ireturn, 1) := by decide +kernel
theorem dJ9_min_7cf53_0 : decode cJ9_min_7cf53 0 = .ok (.iload_n 0, 1) := by decide +kernel
theorem dJ9_min_7cf53_1 : decode cJ9_min_7cf53 1 = .ok (.iload_n 1, 1) := by decide +kernel
theorem dJ9_min_7cf53_2 : decode cJ9_min_7cf53 2 = .ok (.if_icmp .gt 7, 3) := by decide +kernel
theorem dJ9_min_7cf53_5 : decode cJ9_min_7cf53 5 = .ok (.iload_n 0, 1) := by decide +kernel
theorem dJ9_min_7cf53_6 : decode cJ9_min_7cf53 6 = .ok (.goto 4, 3) := by decide +kernel
theorem dJ9_min_7cf53_9 : decode cJ9_min_7cf53 9 = .ok (.iload_n 1, 1) := by decide +kernel
theorem dJ9_min_7cf53_10 : decode cJ9_min_7cf53 10 = .ok (.ireturn, 1) := by decide +kernel
theorem dJ0_length_8abf5_0 : decode cJ0_length_8abf5 0 = .ok (.aload_n 0, 1) := by decide +kernel
theorem dJ0_length_8abf5_1 : decode cJ0_length_8abf5 1 = .ok (.getfield 9, 3) := by decide +kernel
theorem dJ0_length_8abf5_4 : decode cJ0_length_8abf5 4 = .ok (.arraylength, 1) := by decide +kernel
theorem dJ0_length_8abf5_5 : decode cJ0_length_8abf5 5 = .ok (.aload_n 0, 1) := by decide +kernel
theorem dJ0_length_8abf5_6 : decode cJ0_length_8abf5 6 = .ok (.invokevirtual 335, 3) := by decide +kernel
theorem dJ0_length_8abf5_9 : decode cJ0_length_8abf5 9 = .ok (.ishr, 1) := by decide +kernel
theorem dJ0_length_8abf5_10 : decode cJ0_length_8abf5 10 = .ok (.ireturn, 1) := by decide +kernel
theorem dJ0_isEmpty_aae02_0 : decode cJ0_isEmpty_aae02 0 = .ok (.aload_n 0, 1) := by decide +kernel
theorem dJ0_isEmpty_aae02_1 : decode cJ0_isEmpty_aae02 1 = .ok (.getfield 9, 3) := by decide +kernel
theorem dJ0_isEmpty_aae02_4 : decode cJ0_isEmpty_aae02 4 = .ok (.arraylength, 1) := by decide +kernel
theorem dJ0_isEmpty_aae02_5 : decode cJ0_isEmpty_aae02 5 = .ok (.ifCond .ne 7, 3) := by decide +kernel
theorem dJ0_isEmpty_aae02_8 : decode cJ0_isEmpty_aae02 8 = .ok (.iconst 1, 1) := by decide +kernel
theorem dJ0_isEmpty_aae02_9 : decode cJ0_isEmpty_aae02 9 = .ok (.goto 4, 3) := by decide +kernel
theorem dJ0_isEmpty_aae02_12 : decode cJ0_isEmpty_aae02 12 = .ok (.iconst 0, 1) := by decide +kernel
theorem dJ0_isEmpty_aae02_13 : decode cJ0_isEmpty_aae02 13 = .ok (.ireturn, 1) := by decide +kernel
theorem dJ0_charAt_5068e_0 : decode cJ0_charAt_5068e 0 = .ok (.aload_n 0, 1) := by decide +kernel
theorem dJ0_charAt_5068e_1 : decode cJ0_charAt_5068e 1 = .ok (.invokevirtual 492, 3) := by decide +kernel
theorem dJ0_charAt_5068e_4 : decode cJ0_charAt_5068e 4 = .ok (.ifCond .eq 12, 3) := by decide +kernel
theorem dJ0_charAt_5068e_7 : decode cJ0_charAt_5068e 7 = .ok (.aload_n 0, 1) := by decide +kernel
theorem dJ0_charAt_5068e_8 : decode cJ0_charAt_5068e 8 = .ok (.getfield 9, 3) := by decide +kernel
theorem dJ0_charAt_5068e_11 : decode cJ0_charAt_5068e 11 = .ok (.iload_n 1, 1) := by decide +kernel
theorem dJ0_charAt_5068e_12 : decode cJ0_charAt_5068e 12 = .ok (.invokestatic 495, 3) := by decide +kernel
theorem dJ0_charAt_5068e_15 : decode cJ0_charAt_5068e 15 = .ok (.ireturn, 1) := by decide +kernel
theorem dJ0_charAt_5068e_16 : decode cJ0_charAt_5068e 16 = .ok (.aload_n 0, 1) := by decide +kernel
theorem dJ0_charAt_5068e_17 : decode cJ0_charAt_5068e 17 = .ok (.getfield 9, 3) := by decide +kernel
theorem dJ0_charAt_5068e_20 : decode cJ0_charAt_5068e 20 = .ok (.iload_n 1, 1) := by decide +kernel
theorem dJ0_charAt_5068e_21 : decode cJ0_charAt_5068e 21 = .ok (.invokestatic 498, 3) := by decide +kernel
theorem dJ0_charAt_5068e_24 : decode cJ0_charAt_5068e 24 = .ok (.ireturn, 1) := by decide +kernel
theorem dJ0_indexOf_0f7a4_0 : decode cJ0_indexOf_0f7a4 0 = .ok (.aload_n 0, 1) := by decide +kernel
theorem dJ0_indexOf_0f7a4_1 : decode cJ0_indexOf_0f7a4 1 = .ok (.iload_n 1, 1) := by decide +kernel
theorem dJ0_indexOf_0f7a4_2 : decode cJ0_indexOf_0f7a4 2 = .ok (.iconst 0, 1) := by decide +kernel
theorem dJ0_indexOf_0f7a4_3 : decode cJ0_indexOf_0f7a4 3 = .ok (.invokevirtual 633, 3) := by decide +kernel
theorem dJ0_indexOf_0f7a4_6 : decode cJ0_indexOf_0f7a4 6 = .ok (.ireturn, 1) := by decide +kernel
theorem dJ0_indexOf_7cf53_0 : decode cJ0_indexOf_7cf53 0 = .ok (.aload_n 0, 1) := by decide +kernel
theorem dJ0_indexOf_7cf53_1 : decode cJ0_indexOf_7cf53 1 = .ok (.invokevirtual 492, 3) := by decide +kernel
theorem dJ0_indexOf_7cf53_4 : decode cJ0_indexOf_7cf53 4 = .ok (.ifCond .eq 19, 3) := by decide +kernel
theorem dJ0_indexOf_7cf53_7 : decode cJ0_indexOf_7cf53 7 = .ok (.aload_n 0, 1) := by decide +kernel
theorem dJ0_indexOf_7cf53_8 : decode cJ0_indexOf_7cf53 8 = .ok (.getfield 9, 3) := by decide +kernel
theorem dJ0_indexOf_7cf53_11 : decode cJ0_indexOf_7cf53 11 = .ok (.iload_n 1, 1) := by decide +kernel
theorem dJ0_indexOf_7cf53_12 : decode cJ0_indexOf_7cf53 12 = .ok (.iload_n 2, 1) := by decide +kernel
theorem dJ0_indexOf_7cf53_13 : decode cJ0_indexOf_7cf53 13 = .ok (.aload_n 0, 1) := by decide +kernel
theorem dJ0_indexOf_7cf53_14 : decode cJ0_indexOf_7cf53 14 = .ok (.invokevirtual 505, 3) := by decide +kernel
theorem dJ0_indexOf_7cf53_17 : decode cJ0_indexOf_7cf53 17 = .ok (.invokestatic 637, 3) := by decide +kernel
theorem dJ0_indexOf_7cf53_20 : decode cJ0_indexOf_7cf53 20 = .ok (.goto 16, 3) := by decide +kernel
theorem dJ0_indexOf_7cf53_23 : decode cJ0_indexOf_7cf53 23 = .ok (.aload_n 0, 1) := by decide +kernel
theorem dJ0_indexOf_7cf53_24 : decode cJ0_indexOf_7cf53 24 = .ok (.getfield 9, 3) := by decide +kernel
theorem dJ0_indexOf_7cf53_27 : decode cJ0_indexOf_7cf53 27 = .ok (.iload_n 1, 1) := by decide +kernel
theorem dJ0_indexOf_7cf53_28 : decode cJ0_indexOf_7cf53 28 = .ok (.iload_n 2, 1) := by decide +kernel
theorem dJ0_indexOf_7cf53_29 : decode cJ0_indexOf_7cf53 29 = .ok (.aload_n 0, 1) := by decide +kernel
theorem dJ0_indexOf_7cf53_30 : decode cJ0_indexOf_7cf53 30 = .ok (.invokevirtual 505, 3) := by decide +kernel
theorem dJ0_indexOf_7cf53_33 : decode cJ0_indexOf_7cf53 33 = .ok (.invokestatic 640, 3) := by decide +kernel
theorem dJ0_indexOf_7cf53_36 : decode cJ0_indexOf_7cf53 36 = .ok (.ireturn, 1) := by decide +kernel
theorem dJ0_coder_7d493_0 : decode cJ0_coder_7d493 0 = .ok (.getstatic 38, 3) := by decide +kernel
theorem dJ0_coder_7d493_3 : decode cJ0_coder_7d493 3 = .ok (.ifCond .eq 10, 3) := by decide +kernel
theorem dJ0_coder_7d493_6 : decode cJ0_coder_7d493 6 = .ok (.aload_n 0, 1) := by decide +kernel
theorem dJ0_coder_7d493_7 : decode cJ0_coder_7d493 7 = .ok (.getfield 15, 3) := by decide +kernel
theorem dJ0_coder_7d493_10 : decode cJ0_coder_7d493 10 = .ok (.goto 4, 3) := by decide +kernel
theorem dJ0_coder_7d493_13 : decode cJ0_coder_7d493 13 = .ok (.iconst 1, 1) := by decide +kernel
theorem dJ0_coder_7d493_14 : decode cJ0_coder_7d493 14 = .ok (.ireturn, 1) := by decide +kernel
theorem dJ0_isLatin1_aae02_0 : decode cJ0_isLatin1_aae02 0 = .ok (.getstatic 38, 3) := by decide +kernel
theorem dJ0_isLatin1_aae02_3 : decode cJ0_isLatin1_aae02 3 = .ok (.ifCond .eq 14, 3) := by decide +kernel
theorem dJ0_isLatin1_aae02_6 : decode cJ0_isLatin1_aae02 6 = .ok (.aload_n 0, 1) := by decide +kernel
theorem dJ0_isLatin1_aae02_7 : decode cJ0_isLatin1_aae02 7 = .ok (.getfield 15, 3) := by decide +kernel
theorem dJ0_isLatin1_aae02_10 : decode cJ0_isLatin1_aae02 10 = .ok (.ifCond .ne 7, 3) := by decide +kernel
theorem dJ0_isLatin1_aae02_13 : decode cJ0_isLatin1_aae02 13 = .ok (.iconst 1, 1) := by decide +kernel
theorem dJ0_isLatin1_aae02_14 : decode cJ0_isLatin1_aae02 14 = .ok (.goto 4, 3) := by decide +kernel
theorem dJ0_isLatin1_aae02_17 : decode cJ0_isLatin1_aae02 17 = .ok (.iconst 0, 1) := by decide +kernel
theorem dJ0_isLatin1_aae02_18 : decode cJ0_isLatin1_aae02 18 = .ok (.ireturn, 1) := by decide +kernel
theorem dJ0_checkIndex_df160_0 : decode cJ0_checkIndex_df160 0 = .ok (.iload_n 0, 1) := by decide +kernel
theorem dJ0_checkIndex_df160_1 : decode cJ0_checkIndex_df160 1 = .ok (.iload_n 1, 1) := by decide +kernel
theorem dJ0_checkIndex_df160_2 : decode cJ0_checkIndex_df160 2 = .ok (.getstatic 1053, 3) := by decide +kernel
theorem dJ0_checkIndex_df160_5 : decode cJ0_checkIndex_df160 5 = .ok (.invokestatic 1059, 3) := by decide +kernel
theorem dJ0_checkIndex_df160_8 : decode cJ0_checkIndex_df160 8 = .ok (.pop, 1) := by decide +kernel
theorem dJ0_checkIndex_df160_9 : decode cJ0_checkIndex_df160 9 = .ok (.return_, 1) := by decide +kernel
theorem dJ0_checkBoundsBeginEnd_23922_0 : decode cJ0_checkBoundsBeginEnd_23922 0 = .ok (.iload_n 0, 1) := by decide +kernel
theorem dJ0_checkBoundsBeginEnd_23922_1 : decode cJ0_checkBoundsBeginEnd_23922 1 = .ok (.iload_n 1, 1) := by decide +kernel
theorem dJ0_checkBoundsBeginEnd_23922_2 : decode cJ0_checkBoundsBeginEnd_23922 2 = .ok (.iload_n 2, 1) := by decide +kernel
theorem dJ0_checkBoundsBeginEnd_23922_3 : decode cJ0_checkBoundsBeginEnd_23922 3 = .ok (.getstatic 1053, 3) := by decide +kernel
theorem dJ0_checkBoundsBeginEnd_23922_6 : decode cJ0_checkBoundsBeginEnd_23922 6 = .ok (.invokestatic 1062, 3) := by decide +kernel
theorem dJ0_checkBoundsBeginEnd_23922_9 : decode cJ0_checkBoundsBeginEnd_23922 9 = .ok (.pop, 1) := by decide +kernel
theorem dJ0_checkBoundsBeginEnd_23922_10 : decode cJ0_checkBoundsBeginEnd_23922 10 = .ok (.return_, 1) := by decide +kernel
theorem dJ1_charAt_3b067_0 : decode cJ1_charAt_3b067 0 = .ok (.iload_n 1, 1) := by decide +kernel
theorem dJ1_charAt_3b067_1 : decode cJ1_charAt_3b067 1 = .ok (.aload_n 0, 1) := by decide +kernel
theorem dJ1_charAt_3b067_2 : decode cJ1_charAt_3b067 2 = .ok (.arraylength, 1) := by decide +kernel
theorem dJ1_charAt_3b067_3 : decode cJ1_charAt_3b067 3 = .ok (.invokestatic 9, 3) := by decide +kernel
theorem dJ1_charAt_3b067_6 : decode cJ1_charAt_3b067 6 = .ok (.aload_n 0, 1) := by decide +kernel
theorem dJ1_charAt_3b067_7 : decode cJ1_charAt_3b067 7 = .ok (.iload_n 1, 1) := by decide +kernel
theorem dJ1_charAt_3b067_8 : decode cJ1_charAt_3b067 8 = .ok (.baload, 1) := by decide +kernel
theorem dJ1_charAt_3b067_9 : decode cJ1_charAt_3b067 9 = .ok (.sipush 255, 3) := by decide +kernel
theorem dJ1_charAt_3b067_12 : decode cJ1_charAt_3b067 12 = .ok (.iand, 1) := by decide +kernel
theorem dJ1_charAt_3b067_13 : decode cJ1_charAt_3b067 13 = .ok (.i2c, 1) := by decide +kernel
theorem dJ1_charAt_3b067_14 : decode cJ1_charAt_3b067 14 = .ok (.ireturn, 1) := by decide +kernel
theorem dJ1_canEncode_9a6ad_0 : decode cJ1_canEncode_9a6ad 0 = .ok (.iload_n 0, 1) := by decide +kernel
theorem dJ1_canEncode_9a6ad_1 : decode cJ1_canEncode_9a6ad 1 = .ok (.ifCond .lt 14, 3) := by decide +kernel
theorem dJ1_canEncode_9a6ad_4 : decode cJ1_canEncode_9a6ad 4 = .ok (.iload_n 0, 1) := by decide +kernel
theorem dJ1_canEncode_9a6ad_5 : decode cJ1_canEncode_9a6ad 5 = .ok (.sipush 255, 3) := by decide +kernel
theorem dJ1_canEncode_9a6ad_8 : decode cJ1_canEncode_9a6ad 8 = .ok (.if_icmp .gt 7, 3) := by decide +kernel
theorem dJ1_canEncode_9a6ad_11 : decode cJ1_canEncode_9a6ad 11 = .ok (.iconst 1, 1) := by decide +kernel
theorem dJ1_canEncode_9a6ad_12 : decode cJ1_canEncode_9a6ad 12 = .ok (.goto 4, 3) := by decide +kernel
theorem dJ1_canEncode_9a6ad_15 : decode cJ1_canEncode_9a6ad 15 = .ok (.iconst 0, 1) := by decide +kernel
theorem dJ1_canEncode_9a6ad_16 : decode cJ1_canEncode_9a6ad 16 = .ok (.ireturn, 1) := by decide +kernel
theorem dJ1_indexOf_4cfef_0 : decode cJ1_indexOf_4cfef 0 = .ok (.iload_n 1, 1) := by decide +kernel
theorem dJ1_indexOf_4cfef_1 : decode cJ1_indexOf_4cfef 1 = .ok (.invokestatic 88, 3) := by decide +kernel
theorem dJ1_indexOf_4cfef_4 : decode cJ1_indexOf_4cfef 4 = .ok (.ifCond .ne 5, 3) := by decide +kernel
theorem dJ1_indexOf_4cfef_7 : decode cJ1_indexOf_4cfef 7 = .ok (.iconst (-1), 1) := by decide +kernel
theorem dJ1_indexOf_4cfef_8 : decode cJ1_indexOf_4cfef 8 = .ok (.ireturn, 1) := by decide +kernel
theorem dJ1_indexOf_4cfef_9 : decode cJ1_indexOf_4cfef 9 = .ok (.iload_n 2, 1) := by decide +kernel
theorem dJ1_indexOf_4cfef_10 : decode cJ1_indexOf_4cfef 10 = .ok (.iconst 0, 1) := by decide +kernel
theorem dJ1_indexOf_4cfef_11 : decode cJ1_indexOf_4cfef 11 = .ok (.invokestatic 92, 3) := by decide +kernel
theorem dJ1_indexOf_4cfef_14 : decode cJ1_indexOf_4cfef 14 = .ok (.istore_n 2, 1) := by decide +kernel
theorem dJ1_indexOf_4cfef_15 : decode cJ1_indexOf_4cfef 15 = .ok (.iload_n 3, 1) := by decide +kernel
theorem dJ1_indexOf_4cfef_16 : decode cJ1_indexOf_4cfef 16 = .ok (.aload_n 0, 1) := by decide +kernel
theorem dJ1_indexOf_4cfef_17 : decode cJ1_indexOf_4cfef 17 = .ok (.arraylength, 1) := by decide +kernel
theorem dJ1_indexOf_4cfef_18 : decode cJ1_indexOf_4cfef 18 = .ok (.invokestatic 38, 3) := by decide +kernel
theorem dJ1_indexOf_4cfef_21 : decode cJ1_indexOf_4cfef 21 = .ok (.istore_n 3, 1) := by decide +kernel
theorem dJ1_indexOf_4cfef_22 : decode cJ1_indexOf_4cfef 22 = .ok (.iload_n 2, 1) := by decide +kernel
theorem dJ1_indexOf_4cfef_23 : decode cJ1_indexOf_4cfef 23 = .ok (.iload_n 3, 1) := by decide +kernel
theorem dJ1_indexOf_4cfef_24 : decode cJ1_indexOf_4cfef 24 = .ok (.if_icmp .lt 5, 3) := by decide +kernel
theorem dJ1_indexOf_4cfef_27 : decode cJ1_indexOf_4cfef 27 = .ok (.iconst (-1), 1) := by decide +kernel
theorem dJ1_indexOf_4cfef_28 : decode cJ1_indexOf_4cfef 28 = .ok (.ireturn, 1) := by decide +kernel
theorem dJ1_indexOf_4cfef_29 : decode cJ1_indexOf_4cfef 29 = .ok (.aload_n 0, 1) := by decide +kernel
theorem dJ1_indexOf_4cfef_30 : decode cJ1_indexOf_4cfef 30 = .ok (.iload_n 1, 1) := by decide +kernel
theorem dJ1_indexOf_4cfef_31 : decode cJ1_indexOf_4cfef 31 = .ok (.iload_n 2, 1) := by decide +kernel
theorem dJ1_indexOf_4cfef_32 : decode cJ1_indexOf_4cfef 32 = .ok (.iload_n 3, 1) := by decide +kernel
theorem dJ1_indexOf_4cfef_33 : decode cJ1_indexOf_4cfef 33 = .ok (.invokestatic 95, 3) := by decide +kernel
theorem dJ1_indexOf_4cfef_36 : decode cJ1_indexOf_4cfef 36 = .ok (.ireturn, 1) := by decide +kernel
theorem dJ1_indexOfChar_4cfef_0 : decode cJ1_indexOfChar_4cfef 0 = .ok (.iload_n 1, 1) := by decide +kernel
theorem dJ1_indexOfChar_4cfef_1 : decode cJ1_indexOfChar_4cfef 1 = .ok (.i2b, 1) := by decide +kernel
theorem dJ1_indexOfChar_4cfef_2 : decode cJ1_indexOfChar_4cfef 2 = .ok (.istore 4, 2) := by decide +kernel
theorem dJ1_indexOfChar_4cfef_4 : decode cJ1_indexOfChar_4cfef 4 = .ok (.iload_n 2, 1) := by decide +kernel
theorem dJ1_indexOfChar_4cfef_5 : decode cJ1_indexOfChar_4cfef 5 = .ok (.istore 5, 2) := by decide +kernel
theorem dJ1_indexOfChar_4cfef_7 : decode cJ1_indexOfChar_4cfef 7 = .ok (.iload 5, 2) := by decide +kernel
theorem dJ1_indexOfChar_4cfef_9 : decode cJ1_indexOfChar_4cfef 9 = .ok (.iload_n 3, 1) := by decide +kernel
theorem dJ1_indexOfChar_4cfef_10 : decode cJ1_indexOfChar_4cfef 10 = .ok (.if_icmp .ge 21, 3) := by decide +kernel
theorem dJ1_indexOfChar_4cfef_13 : decode cJ1_indexOfChar_4cfef 13 = .ok (.aload_n 0, 1) := by decide +kernel
theorem dJ1_indexOfChar_4cfef_14 : decode cJ1_indexOfChar_4cfef 14 = .ok (.iload 5, 2) := by decide +kernel
theorem dJ1_indexOfChar_4cfef_16 : decode cJ1_indexOfChar_4cfef 16 = .ok (.baload, 1) := by decide +kernel
theorem dJ1_indexOfChar_4cfef_17 : decode cJ1_indexOfChar_4cfef 17 = .ok (.iload 4, 2) := by decide +kernel
theorem dJ1_indexOfChar_4cfef_19 : decode cJ1_indexOfChar_4cfef 19 = .ok (.if_icmp .ne 6, 3) := by decide +kernel
theorem dJ1_indexOfChar_4cfef_22 : decode cJ1_indexOfChar_4cfef 22 = .ok (.iload 5, 2) := by decide +kernel
theorem dJ1_indexOfChar_4cfef_24 : decode cJ1_indexOfChar_4cfef 24 = .ok (.ireturn, 1) := by decide +kernel
theorem dJ1_indexOfChar_4cfef_25 : decode cJ1_indexOfChar_4cfef 25 = .ok (.iinc 5 1, 3) := by decide +kernel
theorem dJ1_indexOfChar_4cfef_28 : decode cJ1_indexOfChar_4cfef 28 = .ok (.goto (-21), 3) := by decide +kernel
theorem dJ1_indexOfChar_4cfef_31 : decode cJ1_indexOfChar_4cfef 31 = .ok (.iconst (-1), 1) := by decide +kernel
theorem dJ1_indexOfChar_4cfef_32 : decode cJ1_indexOfChar_4cfef 32 = .ok (.ireturn, 1) := by decide +kernel
theorem dJ2_getChar_3b067_0 : decode cJ2_getChar_3b067 0 = .ok (.getstatic 44, 3) := by decide +kernel
theorem dJ2_getChar_3b067_3 : decode cJ2_getChar_3b067 3 = .ok (.ifCond .ne 25, 3) := by decide +kernel
theorem dJ2_getChar_3b067_6 : decode cJ2_getChar_3b067 6 = .ok (.iload_n 1, 1) := by decide +kernel
theorem dJ2_getChar_3b067_7 : decode cJ2_getChar_3b067 7 = .ok (.ifCond .lt 11, 3) := by decide +kernel
theorem dJ2_getChar_3b067_10 : decode cJ2_getChar_3b067 10 = .ok (.iload_n 1, 1) := by decide +kernel
theorem dJ2_getChar_3b067_11 : decode cJ2_getChar_3b067 11 = .ok (.aload_n 0, 1) := by decide +kernel
theorem dJ2_getChar_3b067_12 : decode cJ2_getChar_3b067 12 = .ok (.invokestatic 48, 3) := by decide +kernel
theorem dJ2_getChar_3b067_15 : decode cJ2_getChar_3b067 15 = .ok (.if_icmp .lt 13, 3) := by decide +kernel
theorem dJ2_getChar_3b067_18 : decode cJ2_getChar_3b067 18 = .ok (.new 52, 3) := by decide +kernel
theorem dJ2_getChar_3b067_21 : decode cJ2_getChar_3b067 21 = .ok (.dup, 1) := by decide +kernel
theorem dJ2_getChar_3b067_22 : decode cJ2_getChar_3b067 22 = .ok (.ldc 54, 2) := by decide +kernel
theorem dJ2_getChar_3b067_24 : decode cJ2_getChar_3b067 24 = .ok (.invokespecial 56, 3) := by decide +kernel
theorem dJ2_getChar_3b067_27 : decode cJ2_getChar_3b067 27 = .ok (.athrow, 1) := by decide +kernel
theorem dJ2_getChar_3b067_28 : decode cJ2_getChar_3b067 28 = .ok (.iload_n 1, 1) := by decide +kernel
theorem dJ2_getChar_3b067_29 : decode cJ2_getChar_3b067 29 = .ok (.iconst 1, 1) := by decide +kernel
theorem dJ2_getChar_3b067_30 : decode cJ2_getChar_3b067 30 = .ok (.ishl, 1) := by decide +kernel
theorem dJ2_getChar_3b067_31 : decode cJ2_getChar_3b067 31 = .ok (.istore_n 1, 1) := by decide +kernel
theorem dJ2_getChar_3b067_32 : decode cJ2_getChar_3b067 32 = .ok (.aload_n 0, 1) := by decide +kernel
theorem dJ2_getChar_3b067_33 : decode cJ2_getChar_3b067 33 = .ok (.iload_n 1, 1) := by decide +kernel
theorem dJ2_getChar_3b067_34 : decode cJ2_getChar_3b067 34 = .ok (.iinc 1 1, 3) := by decide +kernel
theorem dJ2_getChar_3b067_37 : decode cJ2_getChar_3b067 37 = .ok (.baload, 1) := by decide +kernel
theorem dJ2_getChar_3b067_38 : decode cJ2_getChar_3b067 38 = .ok (.sipush 255, 3) := by decide +kernel
theorem dJ2_getChar_3b067_41 : decode cJ2_getChar_3b067 41 = .ok (.iand, 1) := by decide +kernel
theorem dJ2_getChar_3b067_42 : decode cJ2_getChar_3b067 42 = .ok (.getstatic 59, 3) := by decide +kernel
theorem dJ2_getChar_3b067_45 : decode cJ2_getChar_3b067 45 = .ok (.ishl, 1) := by decide +kernel
theorem dJ2_getChar_3b067_46 : decode cJ2_getChar_3b067 46 = .ok (.aload_n 0, 1) := by decide +kernel
theorem dJ2_getChar_3b067_47 : decode cJ2_getChar_3b067 47 = .ok (.iload_n 1, 1) := by decide +kernel
theorem dJ2_getChar_3b067_48 : decode cJ2_getChar_3b067 48 = .ok (.baload, 1) := by decide +kernel
theorem dJ2_getChar_3b067_49 : decode cJ2_getChar_3b067 49 = .ok (.sipush 255, 3) := by decide +kernel
theorem dJ2_getChar_3b067_52 : decode cJ2_getChar_3b067 52 = .ok (.iand, 1) := by decide +kernel
theorem dJ2_getChar_3b067_53 : decode cJ2_getChar_3b067 53 = .ok (.getstatic 63, 3) := by decide +kernel
theorem dJ2_getChar_3b067_56 : decode cJ2_getChar_3b067 56 = .ok (.ishl, 1) := by decide +kernel
theorem dJ2_getChar_3b067_57 : decode cJ2_getChar_3b067 57 = .ok (.ior, 1) := by decide +kernel
theorem dJ2_getChar_3b067_58 : decode cJ2_getChar_3b067 58 = .ok (.i2c, 1) := by decide +kernel
theorem dJ2_getChar_3b067_59 : decode cJ2_getChar_3b067 59 = .ok (.ireturn, 1) := by decide +kernel
theorem dJ2_length_9d52b_0 : decode cJ2_length_9d52b 0 = .ok (.aload_n 0, 1) := by decide +kernel
theorem dJ2_length_9d52b_1 : decode cJ2_length_9d52b 1 = .ok (.arraylength, 1) := by decide +kernel
theorem dJ2_length_9d52b_2 : decode cJ2_length_9d52b 2 = .ok (.iconst 1, 1) := by decide +kernel
theorem dJ2_length_9d52b_3 : decode cJ2_length_9d52b 3 = .ok (.ishr, 1) := by decide +kernel
theorem dJ2_length_9d52b_4 : decode cJ2_length_9d52b 4 = .ok (.ireturn, 1) := by decide +kernel
theorem dJ2_indexOf_4cfef_0 : decode cJ2_indexOf_4cfef 0 = .ok (.iload_n 2, 1) := by decide +kernel
theorem dJ2_indexOf_4cfef_1 : decode cJ2_indexOf_4cfef 1 = .ok (.iconst 0, 1) := by decide +kernel
theorem dJ2_indexOf_4cfef_2 : decode cJ2_indexOf_4cfef 2 = .ok (.invokestatic 224, 3) := by decide +kernel
theorem dJ2_indexOf_4cfef_5 : decode cJ2_indexOf_4cfef 5 = .ok (.istore_n 2, 1) := by decide +kernel
theorem dJ2_indexOf_4cfef_6 : decode cJ2_indexOf_4cfef 6 = .ok (.iload_n 3, 1) := by decide +kernel
theorem dJ2_indexOf_4cfef_7 : decode cJ2_indexOf_4cfef 7 = .ok (.aload_n 0, 1) := by decide +kernel
theorem dJ2_indexOf_4cfef_8 : decode cJ2_indexOf_4cfef 8 = .ok (.arraylength, 1) := by decide +kernel
theorem dJ2_indexOf_4cfef_9 : decode cJ2_indexOf_4cfef 9 = .ok (.iconst 1, 1) := by decide +kernel
theorem dJ2_indexOf_4cfef_10 : decode cJ2_indexOf_4cfef 10 = .ok (.ishr, 1) := by decide +kernel
theorem dJ2_indexOf_4cfef_11 : decode cJ2_indexOf_4cfef 11 = .ok (.invokestatic 183, 3) := by decide +kernel
theorem dJ2_indexOf_4cfef_14 : decode cJ2_indexOf_4cfef 14 = .ok (.istore_n 3, 1) := by decide +kernel
theorem dJ2_indexOf_4cfef_15 : decode cJ2_indexOf_4cfef 15 = .ok (.iload_n 2, 1) := by decide +kernel
theorem dJ2_indexOf_4cfef_16 : decode cJ2_indexOf_4cfef 16 = .ok (.iload_n 3, 1) := by decide +kernel
theorem dJ2_indexOf_4cfef_17 : decode cJ2_indexOf_4cfef 17 = .ok (.if_icmp .lt 5, 3) := by decide +kernel
theorem dJ2_indexOf_4cfef_20 : decode cJ2_indexOf_4cfef 20 = .ok (.iconst (-1), 1) := by decide +kernel
theorem dJ2_indexOf_4cfef_21 : decode cJ2_indexOf_4cfef 21 = .ok (.ireturn, 1) := by decide +kernel
theorem dJ2_indexOf_4cfef_22 : decode cJ2_indexOf_4cfef 22 = .ok (.iload_n 1, 1) := by decide +kernel
theorem dJ2_indexOf_4cfef_23 : decode cJ2_indexOf_4cfef 23 = .ok (.ldc 227, 2) := by decide +kernel
theorem dJ2_indexOf_4cfef_25 : decode cJ2_indexOf_4cfef 25 = .ok (.if_icmp .ge 11, 3) := by decide +kernel
theorem dJ2_indexOf_4cfef_28 : decode cJ2_indexOf_4cfef 28 = .ok (.aload_n 0, 1) := by decide +kernel
theorem dJ2_indexOf_4cfef_29 : decode cJ2_indexOf_4cfef 29 = .ok (.iload_n 1, 1) := by decide +kernel
theorem dJ2_indexOf_4cfef_30 : decode cJ2_indexOf_4cfef 30 = .ok (.iload_n 2, 1) := by decide +kernel
theorem dJ2_indexOf_4cfef_31 : decode cJ2_indexOf_4cfef 31 = .ok (.iload_n 3, 1) := by decide +kernel
theorem dJ2_indexOf_4cfef_32 : decode cJ2_indexOf_4cfef 32 = .ok (.invokestatic 228, 3) := by decide +kernel
theorem dJ2_indexOf_4cfef_35 : decode cJ2_indexOf_4cfef 35 = .ok (.ireturn, 1) := by decide +kernel
theorem dJ2_indexOf_4cfef_36 : decode cJ2_indexOf_4cfef 36 = .ok (.aload_n 0, 1) := by decide +kernel
theorem dJ2_indexOf_4cfef_37 : decode cJ2_indexOf_4cfef 37 = .ok (.iload_n 1, 1) := by decide +kernel
theorem dJ2_indexOf_4cfef_38 : decode cJ2_indexOf_4cfef 38 = .ok (.iload_n 2, 1) := by decide +kernel
theorem dJ2_indexOf_4cfef_39 : decode cJ2_indexOf_4cfef 39 = .ok (.iload_n 3, 1) := by decide +kernel
theorem dJ2_indexOf_4cfef_40 : decode cJ2_indexOf_4cfef 40 = .ok (.invokestatic 232, 3) := by decide +kernel
theorem dJ2_indexOf_4cfef_43 : decode cJ2_indexOf_4cfef 43 = .ok (.ireturn, 1) := by decide +kernel
theorem dJ2_indexOfChar_4cfef_0 : decode cJ2_indexOfChar_4cfef 0 = .ok (.iload_n 2, 1) := by decide +kernel
theorem dJ2_indexOfChar_4cfef_1 : decode cJ2_indexOfChar_4cfef 1 = .ok (.iload_n 3, 1) := by decide +kernel
theorem dJ2_indexOfChar_4cfef_2 : decode cJ2_indexOfChar_4cfef 2 = .ok (.aload_n 0, 1) := by decide +kernel
theorem dJ2_indexOfChar_4cfef_3 : decode cJ2_indexOfChar_4cfef 3 = .ok (.invokestatic 96, 3) := by decide +kernel
theorem dJ2_indexOfChar_4cfef_6 : decode cJ2_indexOfChar_4cfef 6 = .ok (.aload_n 0, 1) := by decide +kernel
theorem dJ2_indexOfChar_4cfef_7 : decode cJ2_indexOfChar_4cfef 7 = .ok (.iload_n 1, 1) := by decide +kernel
theorem dJ2_indexOfChar_4cfef_8 : decode cJ2_indexOfChar_4cfef 8 = .ok (.iload_n 2, 1) := by decide +kernel
theorem dJ2_indexOfChar_4cfef_9 : decode cJ2_indexOfChar_4cfef 9 = .ok (.iload_n 3, 1) := by decide +kernel
theorem dJ2_indexOfChar_4cfef_10 : decode cJ2_indexOfChar_4cfef 10 = .ok (.invokestatic 244, 3) := by decide +kernel
theorem dJ2_indexOfChar_4cfef_13 : decode cJ2_indexOfChar_4cfef 13 = .ok (.ireturn, 1) := by decide +kernel
theorem dJ2_indexOfCharUnsafe_4cfef_0 : decode cJ2_indexOfCharUnsafe_4cfef 0 = .ok (.iload_n 2, 1) := by decide +kernel
theorem dJ2_indexOfCharUnsafe_4cfef_1 : decode cJ2_indexOfCharUnsafe_4cfef 1 = .ok (.istore 4, 2) := by decide +kernel
theorem dJ2_indexOfCharUnsafe_4cfef_3 : decode cJ2_indexOfCharUnsafe_4cfef 3 = .ok (.iload 4, 2) := by decide +kernel
theorem dJ2_indexOfCharUnsafe_4cfef_5 : decode cJ2_indexOfCharUnsafe_4cfef 5 = .ok (.iload_n 3, 1) := by decide +kernel
theorem dJ2_indexOfCharUnsafe_4cfef_6 : decode cJ2_indexOfCharUnsafe_4cfef 6 = .ok (.if_icmp .ge 22, 3) := by decide +kernel
theorem dJ2_indexOfCharUnsafe_4cfef_9 : decode cJ2_indexOfCharUnsafe_4cfef 9 = .ok (.aload_n 0, 1) := by decide +kernel
theorem dJ2_indexOfCharUnsafe_4cfef_10 : decode cJ2_indexOfCharUnsafe_4cfef 10 = .ok (.iload 4, 2) := by decide +kernel
theorem dJ2_indexOfCharUnsafe_4cfef_12 : decode cJ2_indexOfCharUnsafe_4cfef 12 = .ok (.invokestatic 71, 3) := by decide +kernel
theorem dJ2_indexOfCharUnsafe_4cfef_15 : decode cJ2_indexOfCharUnsafe_4cfef 15 = .ok (.iload_n 1, 1) := by decide +kernel
theorem dJ2_indexOfCharUnsafe_4cfef_16 : decode cJ2_indexOfCharUnsafe_4cfef 16 = .ok (.if_icmp .ne 6, 3) := by decide +kernel
theorem dJ2_indexOfCharUnsafe_4cfef_19 : decode cJ2_indexOfCharUnsafe_4cfef 19 = .ok (.iload 4, 2) := by decide +kernel
theorem dJ2_indexOfCharUnsafe_4cfef_21 : decode cJ2_indexOfCharUnsafe_4cfef 21 = .ok (.ireturn, 1) := by decide +kernel
theorem dJ2_indexOfCharUnsafe_4cfef_22 : decode cJ2_indexOfCharUnsafe_4cfef 22 = .ok (.iinc 4 1, 3) := by decide +kernel
theorem dJ2_indexOfCharUnsafe_4cfef_25 : decode cJ2_indexOfCharUnsafe_4cfef 25 = .ok (.goto (-22), 3) := by decide +kernel
theorem dJ2_indexOfCharUnsafe_4cfef_28 : decode cJ2_indexOfCharUnsafe_4cfef 28 = .ok (.iconst (-1), 1) := by decide +kernel
theorem dJ2_indexOfCharUnsafe_4cfef_29 : decode cJ2_indexOfCharUnsafe_4cfef 29 = .ok (.ireturn, 1) := by decide +kernel
theorem dJ2_indexOfSupplementary_4cfef_0 : decode cJ2_indexOfSupplementary_4cfef 0 = .ok (.iload_n 1, 1) := by decide +kernel
theorem dJ2_indexOfSupplementary_4cfef_1 : decode cJ2_indexOfSupplementary_4cfef 1 = .ok (.invokestatic 164, 3) := by decide +kernel
theorem dJ2_indexOfSupplementary_4cfef_4 : decode cJ2_indexOfSupplementary_4cfef 4 = .ok (.ifCond .eq 65, 3) := by decide +kernel
theorem dJ2_indexOfSupplementary_4cfef_7 : decode cJ2_indexOfSupplementary_4cfef 7 = .ok (.iload_n 1, 1) := by decide +kernel
theorem dJ2_indexOfSupplementary_4cfef_8 : decode cJ2_indexOfSupplementary_4cfef 8 = .ok (.invokestatic 157, 3) := by decide +kernel
theorem dJ2_indexOfSupplementary_4cfef_11 : decode cJ2_indexOfSupplementary_4cfef 11 = .ok (.istore 4, 2) := by decide +kernel
theorem dJ2_indexOfSupplementary_4cfef_13 : decode cJ2_indexOfSupplementary_4cfef 13 = .ok (.iload_n 1, 1) := by decide +kernel
theorem dJ2_indexOfSupplementary_4cfef_14 : decode cJ2_indexOfSupplementary_4cfef 14 = .ok (.invokestatic 161, 3) := by decide +kernel
theorem dJ2_indexOfSupplementary_4cfef_17 : decode cJ2_indexOfSupplementary_4cfef 17 = .ok (.istore 5, 2) := by decide +kernel
theorem dJ2_indexOfSupplementary_4cfef_19 : decode cJ2_indexOfSupplementary_4cfef 19 = .ok (.iload_n 2, 1) := by decide +kernel
theorem dJ2_indexOfSupplementary_4cfef_20 : decode cJ2_indexOfSupplementary_4cfef 20 = .ok (.iload_n 3, 1) := by decide +kernel
theorem dJ2_indexOfSupplementary_4cfef_21 : decode cJ2_indexOfSupplementary_4cfef 21 = .ok (.aload_n 0, 1) := by decide +kernel
theorem dJ2_indexOfSupplementary_4cfef_22 : decode cJ2_indexOfSupplementary_4cfef 22 = .ok (.invokestatic 96, 3) := by decide +kernel
theorem dJ2_indexOfSupplementary_4cfef_25 : decode cJ2_indexOfSupplementary_4cfef 25 = .ok (.iload_n 2, 1) := by decide +kernel
theorem dJ2_indexOfSupplementary_4cfef_26 : decode cJ2_indexOfSupplementary_4cfef 26 = .ok (.istore 6, 2) := by decide +kernel
theorem dJ2_indexOfSupplementary_4cfef_28 : decode cJ2_indexOfSupplementary_4cfef 28 = .ok (.iload 6, 2) := by decide +kernel
theorem dJ2_indexOfSupplementary_4cfef_30 : decode cJ2_indexOfSupplementary_4cfef 30 = .ok (.iload_n 3, 1) := by decide +kernel
theorem dJ2_indexOfSupplementary_4cfef_31 : decode cJ2_indexOfSupplementary_4cfef 31 = .ok (.iconst 1, 1) := by decide +kernel
theorem dJ2_indexOfSupplementary_4cfef_32 : decode cJ2_indexOfSupplementary_4cfef 32 = .ok (.isub, 1) := by decide +kernel
theorem dJ2_indexOfSupplementary_4cfef_33 : decode cJ2_indexOfSupplementary_4cfef 33 = .ok (.if_icmp .ge 36, 3) := by decide +kernel
theorem dJ2_indexOfSupplementary_4cfef_36 : decode cJ2_indexOfSupplementary_4cfef 36 = .ok (.aload_n 0, 1) := by decide +kernel
theorem dJ2_indexOfSupplementary_4cfef_37 : decode cJ2_indexOfSupplementary_4cfef 37 = .ok (.iload 6, 2) := by decide +kernel
theorem dJ2_indexOfSupplementary_4cfef_39 : decode cJ2_indexOfSupplementary_4cfef 39 = .ok (.invokestatic 71, 3) := by decide +kernel
theorem dJ2_indexOfSupplementary_4cfef_42 : decode cJ2_indexOfSupplementary_4cfef 42 = .ok (.iload 4, 2) := by decide +kernel
theorem dJ2_indexOfSupplementary_4cfef_44 : decode cJ2_indexOfSupplementary_4cfef 44 = .ok (.if_icmp .ne 19, 3) := by decide +kernel
theorem dJ2_indexOfSupplementary_4cfef_47 : decode cJ2_indexOfSupplementary_4cfef 47 = .ok (.aload_n 0, 1) := by decide +kernel
theorem dJ2_indexOfSupplementary_4cfef_48 : decode cJ2_indexOfSupplementary_4cfef 48 = .ok (.iload 6, 2) := by decide +kernel
theorem dJ2_indexOfSupplementary_4cfef_50 : decode cJ2_indexOfSupplementary_4cfef 50 = .ok (.iconst 1, 1) := by decide +kernel
theorem dJ2_indexOfSupplementary_4cfef_51 : decode cJ2_indexOfSupplementary_4cfef 51 = .ok (.iadd, 1) := by decide +kernel
theorem dJ2_indexOfSupplementary_4cfef_52 : decode cJ2_indexOfSupplementary_4cfef 52 = .ok (.invokestatic 71, 3) := by decide +kernel
theorem dJ2_indexOfSupplementary_4cfef_55 : decode cJ2_indexOfSupplementary_4cfef 55 = .ok (.iload 5, 2) := by decide +kernel
theorem dJ2_indexOfSupplementary_4cfef_57 : decode cJ2_indexOfSupplementary_4cfef 57 = .ok (.if_icmp .ne 6, 3) := by decide +kernel
theorem dJ2_indexOfSupplementary_4cfef_60 : decode cJ2_indexOfSupplementary_4cfef 60 = .ok (.iload 6, 2) := by decide +kernel
theorem dJ2_indexOfSupplementary_4cfef_62 : decode cJ2_indexOfSupplementary_4cfef 62 = .ok (.ireturn, 1) := by decide +kernel
theorem dJ2_indexOfSupplementary_4cfef_63 : decode cJ2_indexOfSupplementary_4cfef 63 = .ok (.iinc 6 1, 3) := by decide +kernel
theorem dJ2_indexOfSupplementary_4cfef_66 : decode cJ2_indexOfSupplementary_4cfef 66 = .ok (.goto (-38), 3) := by decide +kernel
theorem dJ2_indexOfSupplementary_4cfef_69 : decode cJ2_indexOfSupplementary_4cfef 69 = .ok (.iconst (-1), 1) := by decide +kernel
theorem dJ2_indexOfSupplementary_4cfef_70 : decode cJ2_indexOfSupplementary_4cfef 70 = .ok (.ireturn, 1) := by decide +kernel
theorem dJ2_charAt_3b067_0 : decode cJ2_charAt_3b067 0 = .ok (.iload_n 1, 1) := by decide +kernel
theorem dJ2_charAt_3b067_1 : decode cJ2_charAt_3b067 1 = .ok (.aload_n 0, 1) := by decide +kernel
theorem dJ2_charAt_3b067_2 : decode cJ2_charAt_3b067 2 = .ok (.invokestatic 67, 3) := by decide +kernel
theorem dJ2_charAt_3b067_5 : decode cJ2_charAt_3b067 5 = .ok (.aload_n 0, 1) := by decide +kernel
theorem dJ2_charAt_3b067_6 : decode cJ2_charAt_3b067 6 = .ok (.iload_n 1, 1) := by decide +kernel
theorem dJ2_charAt_3b067_7 : decode cJ2_charAt_3b067 7 = .ok (.invokestatic 71, 3) := by decide +kernel
theorem dJ2_charAt_3b067_10 : decode cJ2_charAt_3b067 10 = .ok (.ireturn, 1) := by decide +kernel
theorem dJ2_checkIndex_2214a_0 : decode cJ2_checkIndex_2214a 0 = .ok (.iload_n 0, 1) := by decide +kernel
theorem dJ2_checkIndex_2214a_1 : decode cJ2_checkIndex_2214a 1 = .ok (.aload_n 1, 1) := by decide +kernel
theorem dJ2_checkIndex_2214a_2 : decode cJ2_checkIndex_2214a 2 = .ok (.invokestatic 48, 3) := by decide +kernel
theorem dJ2_checkIndex_2214a_5 : decode cJ2_checkIndex_2214a 5 = .ok (.invokestatic 414, 3) := by decide +kernel
theorem dJ2_checkIndex_2214a_8 : decode cJ2_checkIndex_2214a 8 = .ok (.return_, 1) := by decide +kernel
theorem dJ2_checkBoundsBeginEnd_d044e_0 : decode cJ2_checkBoundsBeginEnd_d044e 0 = .ok (.iload_n 0, 1) := by decide +kernel
theorem dJ2_checkBoundsBeginEnd_d044e_1 : decode cJ2_checkBoundsBeginEnd_d044e 1 = .ok (.iload_n 1, 1) := by decide +kernel
theorem dJ2_checkBoundsBeginEnd_d044e_2 : decode cJ2_checkBoundsBeginEnd_d044e 2 = .ok (.aload_n 2, 1) := by decide +kernel
theorem dJ2_checkBoundsBeginEnd_d044e_3 : decode cJ2_checkBoundsBeginEnd_d044e 3 = .ok (.invokestatic 48, 3) := by decide +kernel
theorem dJ2_checkBoundsBeginEnd_d044e_6 : decode cJ2_checkBoundsBeginEnd_d044e 6 = .ok (.invokestatic 241, 3) := by decide +kernel
theorem dJ2_checkBoundsBeginEnd_d044e_9 : decode cJ2_checkBoundsBeginEnd_d044e 9 = .ok (.return_, 1) := by decide +kernel
theorem dJ7_fill_53178_0 : decode cJ7_fill_53178 0 = .ok (.iconst 0, 1) := by decide +kernel
theorem dJ7_fill_53178_1 : decode cJ7_fill_53178 1 = .ok (.istore_n 2, 1) := by decide +kernel
theorem dJ7_fill_53178_2 : decode cJ7_fill_53178 2 = .ok (.aload_n 0, 1) := by decide +kernel
theorem dJ7_fill_53178_3 : decode cJ7_fill_53178 3 = .ok (.arraylength, 1) := by decide +kernel
theorem dJ7_fill_53178_4 : decode cJ7_fill_53178 4 = .ok (.istore_n 3, 1) := by decide +kernel
theorem dJ7_fill_53178_5 : decode cJ7_fill_53178 5 = .ok (.iload_n 2, 1) := by decide +kernel
theorem dJ7_fill_53178_6 : decode cJ7_fill_53178 6 = .ok (.iload_n 3, 1) := by decide +kernel
theorem dJ7_fill_53178_7 : decode cJ7_fill_53178 7 = .ok (.if_icmp .ge 13, 3) := by decide +kernel
theorem dJ7_fill_53178_10 : decode cJ7_fill_53178 10 = .ok (.aload_n 0, 1) := by decide +kernel
theorem dJ7_fill_53178_11 : decode cJ7_fill_53178 11 = .ok (.iload_n 2, 1) := by decide +kernel
theorem dJ7_fill_53178_12 : decode cJ7_fill_53178 12 = .ok (.iload_n 1, 1) := by decide +kernel
theorem dJ7_fill_53178_13 : decode cJ7_fill_53178 13 = .ok (.iastore, 1) := by decide +kernel
theorem dJ7_fill_53178_14 : decode cJ7_fill_53178 14 = .ok (.iinc 2 1, 3) := by decide +kernel
theorem dJ7_fill_53178_17 : decode cJ7_fill_53178 17 = .ok (.goto (-12), 3) := by decide +kernel
theorem dJ7_fill_53178_20 : decode cJ7_fill_53178 20 = .ok (.return_, 1) := by decide +kernel
theorem dJ3_checkIndex_8e157_0 : decode cJ3_checkIndex_8e157 0 = .ok (.iload_n 0, 1) := by decide +kernel
theorem dJ3_checkIndex_8e157_1 : decode cJ3_checkIndex_8e157 1 = .ok (.ifCond .lt 8, 3) := by decide +kernel
theorem dJ3_checkIndex_8e157_4 : decode cJ3_checkIndex_8e157 4 = .ok (.iload_n 0, 1) := by decide +kernel
theorem dJ3_checkIndex_8e157_5 : decode cJ3_checkIndex_8e157 5 = .ok (.iload_n 1, 1) := by decide +kernel
theorem dJ3_checkIndex_8e157_6 : decode cJ3_checkIndex_8e157 6 = .ok (.if_icmp .lt 10, 3) := by decide +kernel
theorem dJ3_checkIndex_8e157_9 : decode cJ3_checkIndex_8e157 9 = .ok (.aload_n 2, 1) := by decide +kernel
theorem dJ3_checkIndex_8e157_10 : decode cJ3_checkIndex_8e157 10 = .ok (.iload_n 0, 1) := by decide +kernel
theorem dJ3_checkIndex_8e157_11 : decode cJ3_checkIndex_8e157 11 = .ok (.iload_n 1, 1) := by decide +kernel
theorem dJ3_checkIndex_8e157_12 : decode cJ3_checkIndex_8e157 12 = .ok (.invokestatic 95, 3) := by decide +kernel
theorem dJ3_checkIndex_8e157_15 : decode cJ3_checkIndex_8e157 15 = .ok (.athrow, 1) := by decide +kernel
theorem dJ3_checkIndex_8e157_16 : decode cJ3_checkIndex_8e157 16 = .ok (.iload_n 0, 1) := by decide +kernel
theorem dJ3_checkIndex_8e157_17 : decode cJ3_checkIndex_8e157 17 = .ok (.ireturn, 1) := by decide +kernel
theorem dJ3_checkFromToIndex_8c36e_0 : decode cJ3_checkFromToIndex_8c36e 0 = .ok (.iload_n 0, 1) := by decide +kernel
theorem dJ3_checkFromToIndex_8c36e_1 : decode cJ3_checkFromToIndex_8c36e 1 = .ok (.ifCond .lt 13, 3) := by decide +kernel
theorem dJ3_checkFromToIndex_8c36e_4 : decode cJ3_checkFromToIndex_8c36e 4 = .ok (.iload_n 0, 1) := by decide +kernel
theorem dJ3_checkFromToIndex_8c36e_5 : decode cJ3_checkFromToIndex_8c36e 5 = .ok (.iload_n 1, 1) := by decide +kernel
theorem dJ3_checkFromToIndex_8c36e_6 : decode cJ3_checkFromToIndex_8c36e 6 = .ok (.if_icmp .gt 8, 3) := by decide +kernel
theorem dJ3_checkFromToIndex_8c36e_9 : decode cJ3_checkFromToIndex_8c36e 9 = .ok (.iload_n 1, 1) := by decide +kernel
theorem dJ3_checkFromToIndex_8c36e_10 : decode cJ3_checkFromToIndex_8c36e 10 = .ok (.iload_n 2, 1) := by decide +kernel
theorem dJ3_checkFromToIndex_8c36e_11 : decode cJ3_checkFromToIndex_8c36e 11 = .ok (.if_icmp .le 11, 3) := by decide +kernel
theorem dJ3_checkFromToIndex_8c36e_14 : decode cJ3_checkFromToIndex_8c36e 14 = .ok (.aload_n 3, 1) := by decide +kernel
theorem dJ3_checkFromToIndex_8c36e_15 : decode cJ3_checkFromToIndex_8c36e 15 = .ok (.iload_n 0, 1) := by decide +kernel
theorem dJ3_checkFromToIndex_8c36e_16 : decode cJ3_checkFromToIndex_8c36e 16 = .ok (.iload_n 1, 1) := by decide +kernel
theorem dJ3_checkFromToIndex_8c36e_17 : decode cJ3_checkFromToIndex_8c36e 17 = .ok (.iload_n 2, 1) := by decide +kernel
theorem dJ3_checkFromToIndex_8c36e_18 : decode cJ3_checkFromToIndex_8c36e 18 = .ok (.invokestatic 99, 3) := by decide +kernel
theorem dJ3_checkFromToIndex_8c36e_21 : decode cJ3_checkFromToIndex_8c36e 21 = .ok (.athrow, 1) := by decide +kernel
theorem dJ3_checkFromToIndex_8c36e_22 : decode cJ3_checkFromToIndex_8c36e 22 = .ok (.iload_n 0, 1) := by decide +kernel
theorem dJ3_checkFromToIndex_8c36e_23 : decode cJ3_checkFromToIndex_8c36e 23 = .ok (.ireturn, 1) := by decide +kernel
